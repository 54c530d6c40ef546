set_option maxHeartbeats 4000000 in
set_option maxRecDepth 100000 in
theorem c_X6_age (l : Launch) (dC : Nat → ClassId) (dI : Nat → Nat → Nat) (cI cZ cS cC cJ : ClassId) (a : Nat → Nat) (v : Nat → Nat → Int32) (sz : Nat) (p0 : Int32) (hD : mDD a) (gn : Nat) (hn : gn < 200000) (hB : rB gn v v) (i0 : Nat) (hi0 : i0 < 12) (ei0 : p0 = nI i0) : Met l yX6_age (Cond.code yX6_age cX6_age 5 (some .int) :: WW) ({ frames := 1, cells := 0, slots := 0, locals := 30 }) (va_Pc [.ref (a 45), .int p0] (fun U => U.heap.size = sz ∧ va_P (dC, dI) vwCl (mW cI cZ cS cC cJ a v) U.heap ∧ va_K (dC, dI) vwCl [(cI, .int), (cZ, .boolean), (cS, .object RX3), (cC, .object RX0), (cJ, .long)] U ∧ mN U)) (va_Qi (fun (r : Int32) (_u : Unit) => True) (fun (_ : Unit) (t : State) => va_P (dC, dI) vwCl (mW cI cZ cS cC cJ a v) t.heap) (mA a sz)) 0 0 (mA a sz) := by
  refine Met.ofW (cc := cX6_age) (maxL := 5) (ret := (some .int)) (by decide) rfl ?_
  intro p e s m args below meth c s₁ B hml hv
  obtain ⟨rfl, hsz, hP, hK, hN⟩ := hv
  have hx := B.exec
  have hb := B.bytes
  have hr := B.returns
  have hts := atoms_spec (ws := Cond.code yX6_age cX6_age 5 (some .int) :: WW) B.pre
  have hown : s.vm.findClass RX6 = some m.cls := findClass_of_methodNamed B.named
  have hlocks := B.notSynchronized
  subst hsz
  have hAc : ∀ c, c < 81 → mA a s.heap.size (a c) := fun c h => Or.inl ⟨c, h, rfl⟩
  have hA : ∀ q : Nat, s.heap.size ≤ q → mA a s.heap.size q := fun q h => Or.inr h
  generalize hAe : mA a s.heap.size = A at hAc hA ⊢
  have hS : va_S A s.heap s.heap [] := va_S.rf
  have hl := lv_entry ([.ref (a 45), .int p0]) (n := 5) (Nat.le_of_ble_eq_true rfl)
  rw [lg_entry_eq]
  generalize (lg_sl ([.ref (a 45), .int p0]) ++ List.replicate (5 - (lg_sl ([.ref (a 45), .int p0])).length) Slot.unset).toArray = ls at hl ⊢
  have hl : lv_has ls 5 [(0, .ref (a 45)), (1, .int p0)] := hl
  refine kt_absQ (fun Q hQ9 => ?_)
  refine lv_aload_n hx hb dX6_age_0 rfl (lv_at hl 0 rfl) ?_
  refine va_get (D := (dC, dI)) (ci := 6) (v := .int (v 45 1)) (C := RX6) (T := TX6) (N := 43) hx hb hts (fun w h => List.mem_cons_of_mem _ (inWX6 w h)) hown hK hP 45 at_45 rfl 1 (by decide) (hts _ (List.mem_cons_of_mem _ kw_t3_42)) (fun _ h9 => h9) rfl dX6_age_1 ?_
  refine lv_topi (fun t_1 et_1 => ?_)
  refine lv_istore_n (lv' := [(2, .int t_1), (0, .ref (a 45)), (1, .int p0)]) hx hb dX6_age_4 rfl hl (by decide) rfl (fun ls hl => ?_)
  refine lv_iconst (v := 0) hx hb dX6_age_5 (by decide) ?_
  refine lv_istore_n (lv' := [(3, .int 0), (2, .int t_1), (0, .ref (a 45)), (1, .int p0)]) hx hb dX6_age_6 rfl hl (by decide) rfl (fun ls hl => ?_)
  have key1 : ∀ (n i1 : Nat) (k1 : Int32) (y1_2 : Int32) (H : Heap) (locs : List Loc) (ls : Array Slot), i1 ≤ 6 → 6 - i1 < n → k1 = nI i1 → va_P (dC, dI) vwCl (mW cI cZ cS cC cJ a v) H → va_S A s.heap H locs → lv_has ls 5 [(3, .int k1), (2, .int y1_2), (0, .ref (a 45)), (1, .int p0)] → W p l e (headSpec (Cond.code yX6_age cX6_age 5 (some .int) :: WW) ({ frames := 1, cells := 0, slots := 0, locals := 30 })).room s m ([.ref (a 45), .int p0] : List Value).toArray below meth c H locs 0 0 Q (F0 m 7 ls []) := by
    intro n
    induction n with
    | zero => intro i k y1_2 H locs ls h1 h2; exact absurd h2 (by omega)
    | succ n ih1 =>
      intro i1 k1 y1_2 H locs ls hi1 hin1 ek1 hP hS hl
      refine lv_iload_n hx hb dX6_age_7 rfl (lv_at hl 0 rfl) ?_
      refine lv_bipush (v := 6) hx hb dX6_age_8 (by decide) ?_
      refine lv_icmp_ge (tgt := 78) hx hb dX6_age_10 (by decide) (fun c_2 => ?_) (fun c_2 => ?_)
      · refine lv_aload_n hx hb dX6_age_78 rfl (lv_at hl 2 rfl) ?_
        refine va_get (D := (dC, dI)) (ci := 6) (v := .int (v 45 1)) (C := RX6) (T := TX6) (N := 43) hx hb hts (fun w h => List.mem_cons_of_mem _ (inWX6 w h)) hown hK hP 45 at_45 rfl 1 (by decide) (hts _ (List.mem_cons_of_mem _ kw_t3_42)) (fun _ h9 => h9) rfl dX6_age_79 ?_
        refine lv_topi (fun t_3 et_3 => ?_)
        obtain rfl : t_1 = t_3 := et_1.trans et_3.symm
        refine lv_iload_n hx hb dX6_age_82 rfl (lv_at hl 1 rfl) ?_
        refine lv_isub hx hb dX6_age_83 ?_
        refine lv_topi (fun t_4 et_4 => ?_)
        rw [hQ9]
        exact W.iret (v := t_4) hx hb hr (fun t ht hW => ⟨⟨t_4, (), rfl, trivial, kt_heap ht hP⟩, hS.F ht⟩) hS.2.2 dX6_age_84
      · refine lv_aload_n hx hb dX6_age_13 rfl (lv_at hl 2 rfl) ?_
        refine va_get (D := (dC, dI)) (ci := 6) (v := .ref (a 48)) (C := RX6) (T := TX6) (N := 43) hx hb hts (fun w h => List.mem_cons_of_mem _ (inWX6 w h)) hown hK hP 45 at_45 rfl 11 (by decide) (hts _ (List.mem_cons_of_mem _ kw_t3_52)) (fun _ h9 => h9) rfl dX6_age_14 ?_
        refine lv_iload_n hx hb dX6_age_17 rfl (lv_at hl 3 rfl) ?_
        refine va_iald hx hb hK hP 48 0 at_48 rfl (kt_inN ei0 (by omega) (by decide)) dX6_age_18 ?_
        refine lv_topi (fun t_5 et_5 => ?_)
        rw [ei0, nI_clamp (by omega)] at et_5
        refine lv_iload_n hx hb dX6_age_19 rfl (lv_at hl 0 rfl) ?_
        have hFc := mA_free (a := a) hS hA hAc
        refine va_calli (va_runS (As := [.int t_5, .int k1]) (rest := []) ⟨hx, hb, hml, hown, hts⟩ (c_X6_isOf l dC dI cI cZ cS cC cJ a v H.size t_5 k1 hD gn (by omega) hB.self) (va_cwS 2 hts (gS (fun w h => List.mem_cons_of_mem _ h) kw_t4_0 kw_t4_1 kw_t1_7 kw_t4_2) rfl rfl rfl (by decide +kernel) ⟨Nat.le_of_ble_eq_true rfl, Nat.le_of_ble_eq_true rfl⟩) ⟨fun av U g mk q => by obtain ⟨q0, q1, qP, qK, qN⟩ := q; exact ⟨q0, q1, qP, va_K.moved (u := U) (U := U.calling g mk av) (Vm.Alike.refl U.vm) qK, mN_same qN⟩, fun U hU hW => ⟨rfl, by rw [hU], by rw [hU]; exact hP, va_K.moved hW.alike hK, mN_warm hW hN⟩⟩ rfl rfl hl.1 rfl (lv_room (Nat.le_of_ble_eq_true rfl)) dX6_age_20 ⟨Nat.le_of_ble_eq_true rfl, Nat.le_of_ble_eq_true rfl⟩) hS (fun q _ h => hFc q h) hFc (fun r_6 _ t H locs ht hvm hw_6 hP _ _ hS => ?_)
        have hP := kt_heap2 ht hP
        clear ht hFc
        have hP : va_P (dC, dI) vwCl (mW cI cZ cS cC cJ a v) H := hP
        refine lv_if_ne (tgt := 29) hx hb dX6_age_23 (by decide) (fun c_7 => ?_) (fun c_7 => ?_)
        · refine lv_bipush (v := 6) hx hb dX6_age_29 (by decide) ?_
          refine lv_iload_n hx hb dX6_age_31 rfl (lv_at hl 3 rfl) ?_
          refine lv_imul hx hb dX6_age_32 ?_
          refine lv_topi (fun t_8 et_8 => ?_)
          refine lv_iload_n hx hb dX6_age_33 rfl (lv_at hl 0 rfl) ?_
          refine lv_iadd hx hb dX6_age_34 ?_
          refine lv_topi (fun t_9 et_9 => ?_)
          refine lv_istore (lv' := [(4, .int t_9), (3, .int k1), (2, .int y1_2), (0, .ref (a 45)), (1, .int p0)]) hx hb dX6_age_35 hl (by decide) rfl (fun ls hl => ?_)
          refine lv_iload_n hx hb dX6_age_37 rfl (lv_at hl 2 rfl) ?_
          refine lv_aload_n hx hb dX6_age_38 rfl (lv_at hl 3 rfl) ?_
          refine va_get (D := (dC, dI)) (ci := 6) (v := .ref (a 65)) (C := RX6) (T := TX6) (N := 43) hx hb hts (fun w h => List.mem_cons_of_mem _ (inWX6 w h)) hown hK hP 45 at_45 rfl 28 (by decide) (hts _ (List.mem_cons_of_mem _ kw_t3_69)) (fun _ h9 => h9) rfl dX6_age_39 ?_
          refine lv_iload hx hb dX6_age_42 (lv_at hl 0 rfl) ?_
          have hi_11 : i1 < 6 := kt_lt (N := 6) rfl (by decide) ek1 hi1 c_2
          have hm_10 : t_9 = nI (6 * i0 + i1) := kt_mad (C := 6) rfl ei0 ek1 et_8 et_9
          refine va_iald hx hb hK hP 65 0 at_65 rfl (kt_inN hm_10 (by omega) (by decide)) dX6_age_44 ?_
          refine lv_topi (fun t_12 et_12 => ?_)
          rw [hm_10, nI_clamp (by omega)] at et_12
          refine va_mmin hx hb (hml.trans hl.1.symm) hown (hts _ (List.mem_cons_of_mem _ kw_t4_52)) (hts _ (List.mem_cons_of_mem _ kw_t2_69)) (hts _ (List.mem_cons_of_mem _ kw_t1_8)) (hts _ (List.mem_cons_of_mem _ kw_t2_70)) (Nat.le_of_ble_eq_true rfl) (Nat.le_of_ble_eq_true rfl) (Nat.zero_le _) (Nat.zero_le _) dX6_age_45 ?_
          refine lv_topi (fun t_13 et_13 => ?_)
          refine lv_istore_n (lv' := [(2, .int t_13), (4, .int t_9), (3, .int k1), (0, .ref (a 45)), (1, .int p0)]) hx hb dX6_age_48 rfl hl (by decide) rfl (fun ls hl => ?_)
          refine lv_aload_n hx hb dX6_age_49 rfl (lv_at hl 3 rfl) ?_
          refine va_get (D := (dC, dI)) (ci := 6) (v := .ref (a 63)) (C := RX6) (T := TX6) (N := 43) hx hb hts (fun w h => List.mem_cons_of_mem _ (inWX6 w h)) hown hK hP 45 at_45 rfl 26 (by decide) (hts _ (List.mem_cons_of_mem _ kw_t3_67)) (fun _ h9 => h9) rfl dX6_age_50 ?_
          refine lv_iload hx hb dX6_age_53 (lv_at hl 1 rfl) ?_
          refine va_iald hx hb hK hP 63 0 at_63 rfl (kt_inN hm_10 (by omega) (by decide)) dX6_age_55 ?_
          refine lv_topi (fun t_14 et_14 => ?_)
          rw [hm_10, nI_clamp (by omega)] at et_14
          refine lv_iconst (v := (-1)) hx hb dX6_age_56 (by decide) ?_
          refine lv_icmp_eq (tgt := 72) hx hb dX6_age_57 (by decide) (fun c_15 => ?_) (fun c_15 => ?_)
          · obtain ⟨t_16, et_16⟩ : ∃ y : Int32, y = k1 + 1 := ⟨_, rfl⟩
            refine lv_iinc (v := t_16) (lv' := [(3, .int t_16), (2, .int t_13), (4, .int t_9), (0, .ref (a 45)), (1, .int p0)]) hx hb dX6_age_72 hl (k := 2) rfl (by rw [et_16]; rfl) (by decide) rfl (fun ls hl => ?_)
            refine lv_goto (tgt := 7) hx hb dX6_age_75 (by decide) ?_
            exact ih1 (i1 + 1) t_16 t_13 _ _ _ (by omega) (by omega) (by rw [et_16, ek1]; exact nI_1 i1) hP hS (lv_sub hl [0, 1, 3, 4] rfl)
          · refine lv_iload_n hx hb dX6_age_60 rfl (lv_at hl 0 rfl) ?_
            refine lv_aload_n hx hb dX6_age_61 rfl (lv_at hl 3 rfl) ?_
            refine va_get (D := (dC, dI)) (ci := 6) (v := .ref (a 66)) (C := RX6) (T := TX6) (N := 43) hx hb hts (fun w h => List.mem_cons_of_mem _ (inWX6 w h)) hown hK hP 45 at_45 rfl 29 (by decide) (hts _ (List.mem_cons_of_mem _ kw_t3_70)) (fun _ h9 => h9) rfl dX6_age_62 ?_
            refine lv_iload hx hb dX6_age_65 (lv_at hl 1 rfl) ?_
            refine va_iald hx hb hK hP 66 0 at_66 rfl (kt_inN hm_10 (by omega) (by decide)) dX6_age_67 ?_
            refine lv_topi (fun t_17 et_17 => ?_)
            rw [hm_10, nI_clamp (by omega)] at et_17
            refine va_mmin hx hb (hml.trans hl.1.symm) hown (hts _ (List.mem_cons_of_mem _ kw_t4_52)) (hts _ (List.mem_cons_of_mem _ kw_t2_69)) (hts _ (List.mem_cons_of_mem _ kw_t1_8)) (hts _ (List.mem_cons_of_mem _ kw_t2_70)) (Nat.le_of_ble_eq_true rfl) (Nat.le_of_ble_eq_true rfl) (Nat.zero_le _) (Nat.zero_le _) dX6_age_68 ?_
            refine lv_topi (fun t_18 et_18 => ?_)
            refine lv_istore_n (lv' := [(2, .int t_18), (4, .int t_9), (3, .int k1), (0, .ref (a 45)), (1, .int p0)]) hx hb dX6_age_71 rfl hl (by decide) rfl (fun ls hl => ?_)
            obtain ⟨t_19, et_19⟩ : ∃ y : Int32, y = k1 + 1 := ⟨_, rfl⟩
            refine lv_iinc (v := t_19) (lv' := [(3, .int t_19), (2, .int t_18), (4, .int t_9), (0, .ref (a 45)), (1, .int p0)]) hx hb dX6_age_72 hl (k := 2) rfl (by rw [et_19]; rfl) (by decide) rfl (fun ls hl => ?_)
            refine lv_goto (tgt := 7) hx hb dX6_age_75 (by decide) ?_
            exact ih1 (i1 + 1) t_19 t_18 _ _ _ (by omega) (by omega) (by rw [et_19, ek1]; exact nI_1 i1) hP hS (lv_sub hl [0, 1, 3, 4] rfl)
        · refine lv_goto (tgt := 72) hx hb dX6_age_26 (by decide) ?_
          obtain ⟨t_20, et_20⟩ : ∃ y : Int32, y = k1 + 1 := ⟨_, rfl⟩
          refine lv_iinc (v := t_20) (lv' := [(3, .int t_20), (2, .int y1_2), (0, .ref (a 45)), (1, .int p0)]) hx hb dX6_age_72 hl (k := 0) rfl (by rw [et_20]; rfl) (by decide) rfl (fun ls hl => ?_)
          refine lv_goto (tgt := 7) hx hb dX6_age_75 (by decide) ?_
          have hi_21 : i1 < 6 := kt_lt (N := 6) rfl (by decide) ek1 hi1 c_2
          exact ih1 (i1 + 1) t_20 y1_2 _ _ _ (by omega) (by omega) (by rw [et_20, ek1]; exact nI_1 i1) hP hS (lv_sub hl [0, 1, 2, 3] rfl)
  exact key1 (6 + 1) 0 0 t_1 _ _ _ (Nat.zero_le _) (by omega) rfl hP hS (lv_sub hl [0, 1, 2, 3] rfl)

set_option maxHeartbeats 4000000 in
set_option maxRecDepth 100000 in
theorem c_X6_lockedOut (l : Launch) (dC : Nat → ClassId) (dI : Nat → Nat → Nat) (cI cZ cS cC cJ : ClassId) (a : Nat → Nat) (v : Nat → Nat → Int32) (sz : Nat) (p0 : Int32) (hD : mDD a) (gn : Nat) (hn : gn < 200000) (hB : rB gn v v) (i0 : Nat) (hi0 : i0 < 12) (ei0 : p0 = nI i0) : Met l yX6_lockedOut (Cond.code yX6_lockedOut cX6_lockedOut 6 (some .int) :: WW) ({ frames := 1, cells := 0, slots := 0, locals := 30 }) (va_Pc [.ref (a 45), .int p0] (fun U => U.heap.size = sz ∧ va_P (dC, dI) vwCl (mW cI cZ cS cC cJ a v) U.heap ∧ va_K (dC, dI) vwCl [(cI, .int), (cZ, .boolean), (cS, .object RX3), (cC, .object RX0), (cJ, .long)] U ∧ mN U)) (va_Qi (fun (r : Int32) (_u : Unit) => True) (fun (_ : Unit) (t : State) => va_P (dC, dI) vwCl (mW cI cZ cS cC cJ a v) t.heap) (mA a sz)) 0 0 (mA a sz) := by
  refine Met.ofW (cc := cX6_lockedOut) (maxL := 6) (ret := (some .int)) (by decide) rfl ?_
  intro p e s m args below meth c s₁ B hml hv
  obtain ⟨rfl, hsz, hP, hK, hN⟩ := hv
  have hx := B.exec
  have hb := B.bytes
  have hr := B.returns
  have hts := atoms_spec (ws := Cond.code yX6_lockedOut cX6_lockedOut 6 (some .int) :: WW) B.pre
  have hown : s.vm.findClass RX6 = some m.cls := findClass_of_methodNamed B.named
  have hlocks := B.notSynchronized
  subst hsz
  have hAc : ∀ c, c < 81 → mA a s.heap.size (a c) := fun c h => Or.inl ⟨c, h, rfl⟩
  have hA : ∀ q : Nat, s.heap.size ≤ q → mA a s.heap.size q := fun q h => Or.inr h
  generalize hAe : mA a s.heap.size = A at hAc hA ⊢
  have hS : va_S A s.heap s.heap [] := va_S.rf
  have hl := lv_entry ([.ref (a 45), .int p0]) (n := 6) (Nat.le_of_ble_eq_true rfl)
  rw [lg_entry_eq]
  generalize (lg_sl ([.ref (a 45), .int p0]) ++ List.replicate (6 - (lg_sl ([.ref (a 45), .int p0])).length) Slot.unset).toArray = ls at hl ⊢
  have hl : lv_has ls 6 [(0, .ref (a 45)), (1, .int p0)] := hl
  refine kt_absQ (fun Q hQ9 => ?_)
  refine lv_iconst (v := 0) hx hb dX6_lockedOut_0 (by decide) ?_
  refine lv_istore_n (lv' := [(2, .int 0), (0, .ref (a 45)), (1, .int p0)]) hx hb dX6_lockedOut_1 rfl hl (by decide) rfl (fun ls hl => ?_)
  refine lv_iconst (v := 0) hx hb dX6_lockedOut_2 (by decide) ?_
  refine lv_istore_n (lv' := [(3, .int 0), (2, .int 0), (0, .ref (a 45)), (1, .int p0)]) hx hb dX6_lockedOut_3 rfl hl (by decide) rfl (fun ls hl => ?_)
  have key1 : ∀ (n i1 : Nat) (k1 : Int32) (y1_2 : Int32) (H : Heap) (locs : List Loc) (ls : Array Slot), i1 ≤ 10 → 10 - i1 < n → k1 = nI i1 → va_P (dC, dI) vwCl (mW cI cZ cS cC cJ a v) H → va_S A s.heap H locs → lv_has ls 6 [(3, .int k1), (2, .int y1_2), (0, .ref (a 45)), (1, .int p0)] → W p l e (headSpec (Cond.code yX6_lockedOut cX6_lockedOut 6 (some .int) :: WW) ({ frames := 1, cells := 0, slots := 0, locals := 30 })).room s m ([.ref (a 45), .int p0] : List Value).toArray below meth c H locs 0 0 Q (F0 m 4 ls []) := by
    intro n
    induction n with
    | zero => intro i k y1_2 H locs ls h1 h2; exact absurd h2 (by omega)
    | succ n ih1 =>
      intro i1 k1 y1_2 H locs ls hi1 hin1 ek1 hP hS hl
      refine lv_iload_n hx hb dX6_lockedOut_4 rfl (lv_at hl 0 rfl) ?_
      refine lv_bipush (v := 10) hx hb dX6_lockedOut_5 (by decide) ?_
      refine lv_icmp_ge (tgt := 109) hx hb dX6_lockedOut_7 (by decide) (fun c_1 => ?_) (fun c_1 => ?_)
      · refine lv_iload_n hx hb dX6_lockedOut_109 rfl (lv_at hl 1 rfl) ?_
        rw [hQ9]
        exact W.iret (v := y1_2) hx hb hr (fun t ht hW => ⟨⟨y1_2, (), rfl, trivial, kt_heap ht hP⟩, hS.F ht⟩) hS.2.2 dX6_lockedOut_110
      · refine lv_aload_n hx hb dX6_lockedOut_10 rfl (lv_at hl 2 rfl) ?_
        refine va_get (D := (dC, dI)) (ci := 6) (v := .ref (a 47)) (C := RX6) (T := TX6) (N := 43) hx hb hts (fun w h => List.mem_cons_of_mem _ (inWX6 w h)) hown hK hP 45 at_45 rfl 10 (by decide) (hts _ (List.mem_cons_of_mem _ kw_t3_51)) (fun _ h9 => h9) rfl dX6_lockedOut_11 ?_
        refine lv_iload_n hx hb dX6_lockedOut_14 rfl (lv_at hl 3 rfl) ?_
        refine va_iald hx hb hK hP 47 0 at_47 rfl (kt_inN ei0 (by omega) (by decide)) dX6_lockedOut_15 ?_
        refine lv_topi (fun t_2 et_2 => ?_)
        rw [ei0, nI_clamp (by omega)] at et_2
        refine lv_iload_n hx hb dX6_lockedOut_16 rfl (lv_at hl 0 rfl) ?_
        have hFc := mA_free (a := a) hS hA hAc
        refine va_calli (va_runS (As := [.int t_2, .int k1]) (rest := []) ⟨hx, hb, hml, hown, hts⟩ (c_X6_isOf l dC dI cI cZ cS cC cJ a v H.size t_2 k1 hD gn (by omega) hB.self) (va_cwS 2 hts (gS (fun w h => List.mem_cons_of_mem _ h) kw_t4_0 kw_t4_1 kw_t1_7 kw_t4_2) rfl rfl rfl (by decide +kernel) ⟨Nat.le_of_ble_eq_true rfl, Nat.le_of_ble_eq_true rfl⟩) ⟨fun av U g mk q => by obtain ⟨q0, q1, qP, qK, qN⟩ := q; exact ⟨q0, q1, qP, va_K.moved (u := U) (U := U.calling g mk av) (Vm.Alike.refl U.vm) qK, mN_same qN⟩, fun U hU hW => ⟨rfl, by rw [hU], by rw [hU]; exact hP, va_K.moved hW.alike hK, mN_warm hW hN⟩⟩ rfl rfl hl.1 rfl (lv_room (Nat.le_of_ble_eq_true rfl)) dX6_lockedOut_17 ⟨Nat.le_of_ble_eq_true rfl, Nat.le_of_ble_eq_true rfl⟩) hS (fun q _ h => hFc q h) hFc (fun r_3 _ t H locs ht hvm hw_3 hP _ _ hS => ?_)
        have hP := kt_heap2 ht hP
        clear ht hFc
        have hP : va_P (dC, dI) vwCl (mW cI cZ cS cC cJ a v) H := hP
        refine lv_if_ne (tgt := 26) hx hb dX6_lockedOut_20 (by decide) (fun c_4 => ?_) (fun c_4 => ?_)
        · refine lv_iconst (v := 1) hx hb dX6_lockedOut_26 (by decide) ?_
          refine lv_istore (lv' := [(4, .int 1), (3, .int k1), (2, .int y1_2), (0, .ref (a 45)), (1, .int p0)]) hx hb dX6_lockedOut_27 hl (by decide) rfl (fun ls hl => ?_)
          refine lv_iconst (v := 0) hx hb dX6_lockedOut_29 (by decide) ?_
          refine lv_istore (lv' := [(5, .int 0), (4, .int 1), (3, .int k1), (2, .int y1_2), (0, .ref (a 45)), (1, .int p0)]) hx hb dX6_lockedOut_30 hl (by decide) rfl (fun ls hl => ?_)
          have hi_5 : i1 < 10 := kt_lt (N := 10) rfl (by decide) ek1 hi1 c_1
          have key2 : ∀ (n i2 : Nat) (k2 : Int32) (y2_4 : Int32) (H : Heap) (locs : List Loc) (ls : Array Slot), i2 ≤ 6 → 6 - i2 < n → k2 = nI i2 → va_P (dC, dI) vwCl (mW cI cZ cS cC cJ a v) H → va_S A s.heap H locs → lv_has ls 6 [(5, .int k2), (4, .int y2_4), (3, .int k1), (2, .int y1_2), (0, .ref (a 45)), (1, .int p0)] → W p l e (headSpec (Cond.code yX6_lockedOut cX6_lockedOut 6 (some .int) :: WW) ({ frames := 1, cells := 0, slots := 0, locals := 30 })).room s m ([.ref (a 45), .int p0] : List Value).toArray below meth c H locs 0 0 Q (F0 m 32 ls []) := by
            intro n
            induction n with
            | zero => intro i k y2_4 H locs ls h1 h2; exact absurd h2 (by omega)
            | succ n ih2 =>
              intro i2 k2 y2_4 H locs ls hi2 hin2 ek2 hP hS hl
              refine lv_iload hx hb dX6_lockedOut_32 (lv_at hl 0 rfl) ?_
              refine lv_bipush (v := 6) hx hb dX6_lockedOut_34 (by decide) ?_
              refine lv_icmp_ge (tgt := 92) hx hb dX6_lockedOut_36 (by decide) (fun c_6 => ?_) (fun c_6 => ?_)
              · refine lv_iload hx hb dX6_lockedOut_92 (lv_at hl 1 rfl) ?_
                refine lv_if_ne (tgt := 103) hx hb dX6_lockedOut_94 (by decide) (fun c_7 => ?_) (fun c_7 => ?_)
                · obtain ⟨t_8, et_8⟩ : ∃ y : Int32, y = k1 + 1 := ⟨_, rfl⟩
                  refine lv_iinc (v := t_8) (lv' := [(3, .int t_8), (5, .int k2), (4, .int y2_4), (2, .int y1_2), (0, .ref (a 45)), (1, .int p0)]) hx hb dX6_lockedOut_103 hl (k := 2) rfl (by rw [et_8]; rfl) (by decide) rfl (fun ls hl => ?_)
                  refine lv_goto (tgt := 4) hx hb dX6_lockedOut_106 (by decide) ?_
                  exact ih1 (i1 + 1) t_8 y1_2 _ _ _ (by omega) (by omega) (by rw [et_8, ek1]; exact nI_1 i1) hP hS (lv_sub hl [0, 3, 4, 5] rfl)
                · refine lv_iload_n hx hb dX6_lockedOut_97 rfl (lv_at hl 3 rfl) ?_
                  refine lv_iconst (v := 1) hx hb dX6_lockedOut_98 (by decide) ?_
                  refine lv_iload_n hx hb dX6_lockedOut_99 rfl (lv_at hl 2 rfl) ?_
                  refine lv_ishl hx hb dX6_lockedOut_100 ?_
                  refine lv_topi (fun t_9 et_9 => ?_)
                  refine lv_ior hx hb dX6_lockedOut_101 ?_
                  refine lv_topi (fun t_10 et_10 => ?_)
                  refine lv_istore_n (lv' := [(2, .int t_10), (5, .int k2), (4, .int y2_4), (3, .int k1), (0, .ref (a 45)), (1, .int p0)]) hx hb dX6_lockedOut_102 rfl hl (by decide) rfl (fun ls hl => ?_)
                  obtain ⟨t_11, et_11⟩ : ∃ y : Int32, y = k1 + 1 := ⟨_, rfl⟩
                  refine lv_iinc (v := t_11) (lv' := [(3, .int t_11), (2, .int t_10), (5, .int k2), (4, .int y2_4), (0, .ref (a 45)), (1, .int p0)]) hx hb dX6_lockedOut_103 hl (k := 3) rfl (by rw [et_11]; rfl) (by decide) rfl (fun ls hl => ?_)
                  refine lv_goto (tgt := 4) hx hb dX6_lockedOut_106 (by decide) ?_
                  exact ih1 (i1 + 1) t_11 t_10 _ _ _ (by omega) (by omega) (by rw [et_11, ek1]; exact nI_1 i1) hP hS (lv_sub hl [0, 1, 4, 5] rfl)
              · refine lv_iload hx hb dX6_lockedOut_39 (lv_at hl 1 rfl) ?_
                refine lv_if_eq (tgt := 83) hx hb dX6_lockedOut_41 (by decide) (fun c_12 => ?_) (fun c_12 => ?_)
                · refine lv_iconst (v := 0) hx hb dX6_lockedOut_83 (by decide) ?_
                  refine lv_istore (lv' := [(4, .int 0), (5, .int k2), (3, .int k1), (2, .int y1_2), (0, .ref (a 45)), (1, .int p0)]) hx hb dX6_lockedOut_84 hl (by decide) rfl (fun ls hl => ?_)
                  obtain ⟨t_13, et_13⟩ : ∃ y : Int32, y = k2 + 1 := ⟨_, rfl⟩
                  refine lv_iinc (v := t_13) (lv' := [(5, .int t_13), (4, .int 0), (3, .int k1), (2, .int y1_2), (0, .ref (a 45)), (1, .int p0)]) hx hb dX6_lockedOut_86 hl (k := 1) rfl (by rw [et_13]; rfl) (by decide) rfl (fun ls hl => ?_)
                  refine lv_goto (tgt := 32) hx hb dX6_lockedOut_89 (by decide) ?_
                  have hi_14 : i2 < 6 := kt_lt (N := 6) rfl (by decide) ek2 hi2 c_6
                  exact ih2 (i2 + 1) t_13 0 _ _ _ (by omega) (by omega) (by rw [et_13, ek2]; exact nI_1 i2) hP hS (lv_sub hl [0, 1, 2, 3, 4, 5] rfl)
                · refine lv_aload_n hx hb dX6_lockedOut_44 rfl (lv_at hl 4 rfl) ?_
                  refine va_get (D := (dC, dI)) (ci := 6) (v := .ref (a 48)) (C := RX6) (T := TX6) (N := 43) hx hb hts (fun w h => List.mem_cons_of_mem _ (inWX6 w h)) hown hK hP 45 at_45 rfl 11 (by decide) (hts _ (List.mem_cons_of_mem _ kw_t3_52)) (fun _ h9 => h9) rfl dX6_lockedOut_45 ?_
                  refine lv_iload_n hx hb dX6_lockedOut_48 rfl (lv_at hl 5 rfl) ?_
                  refine va_iald hx hb hK hP 48 0 at_48 rfl (kt_inN ei0 (by omega) (by decide)) dX6_lockedOut_49 ?_
                  refine lv_topi (fun t_15 et_15 => ?_)
                  rw [ei0, nI_clamp (by omega)] at et_15
                  refine lv_iload hx hb dX6_lockedOut_50 (lv_at hl 0 rfl) ?_
                  have hFc := mA_free (a := a) hS hA hAc
                  refine va_calli (va_runS (As := [.int t_15, .int k2]) (rest := []) ⟨hx, hb, hml, hown, hts⟩ (c_X6_isOf l dC dI cI cZ cS cC cJ a v H.size t_15 k2 hD gn (by omega) hB.self) (va_cwS 2 hts (gS (fun w h => List.mem_cons_of_mem _ h) kw_t4_0 kw_t4_1 kw_t1_7 kw_t4_2) rfl rfl rfl (by decide +kernel) ⟨Nat.le_of_ble_eq_true rfl, Nat.le_of_ble_eq_true rfl⟩) ⟨fun av U g mk q => by obtain ⟨q0, q1, qP, qK, qN⟩ := q; exact ⟨q0, q1, qP, va_K.moved (u := U) (U := U.calling g mk av) (Vm.Alike.refl U.vm) qK, mN_same qN⟩, fun U hU hW => ⟨rfl, by rw [hU], by rw [hU]; exact hP, va_K.moved hW.alike hK, mN_warm hW hN⟩⟩ rfl rfl hl.1 rfl (lv_room (Nat.le_of_ble_eq_true rfl)) dX6_lockedOut_52 ⟨Nat.le_of_ble_eq_true rfl, Nat.le_of_ble_eq_true rfl⟩) hS (fun q _ h => hFc q h) hFc (fun r_16 _ t H locs ht hvm hw_16 hP _ _ hS => ?_)
                  have hP := kt_heap2 ht hP
                  clear ht hFc
                  have hP : va_P (dC, dI) vwCl (mW cI cZ cS cC cJ a v) H := hP
                  refine lv_if_eq (tgt := 79) hx hb dX6_lockedOut_55 (by decide) (fun c_17 => ?_) (fun c_17 => ?_)
                  · refine lv_iconst (v := 1) hx hb dX6_lockedOut_79 (by decide) ?_
                    refine lv_goto (tgt := 84) hx hb dX6_lockedOut_80 (by decide) ?_
                    refine lv_istore (lv' := [(4, .int 1), (5, .int k2), (3, .int k1), (2, .int y1_2), (0, .ref (a 45)), (1, .int p0)]) hx hb dX6_lockedOut_84 hl (by decide) rfl (fun ls hl => ?_)
                    obtain ⟨t_18, et_18⟩ : ∃ y : Int32, y = k2 + 1 := ⟨_, rfl⟩
                    refine lv_iinc (v := t_18) (lv' := [(5, .int t_18), (4, .int 1), (3, .int k1), (2, .int y1_2), (0, .ref (a 45)), (1, .int p0)]) hx hb dX6_lockedOut_86 hl (k := 1) rfl (by rw [et_18]; rfl) (by decide) rfl (fun ls hl => ?_)
                    refine lv_goto (tgt := 32) hx hb dX6_lockedOut_89 (by decide) ?_
                    have hi_19 : i2 < 6 := kt_lt (N := 6) rfl (by decide) ek2 hi2 c_6
                    exact ih2 (i2 + 1) t_18 1 _ _ _ (by omega) (by omega) (by rw [et_18, ek2]; exact nI_1 i2) hP hS (lv_sub hl [0, 1, 2, 3, 4, 5] rfl)
                  · refine lv_aload_n hx hb dX6_lockedOut_58 rfl (lv_at hl 4 rfl) ?_
                    refine lv_iload_n hx hb dX6_lockedOut_59 rfl (lv_at hl 5 rfl) ?_
                    refine lv_iload hx hb dX6_lockedOut_60 (lv_at hl 0 rfl) ?_
                    refine lv_aload_n hx hb dX6_lockedOut_62 rfl (lv_at hl 4 rfl) ?_
                    refine va_get (D := (dC, dI)) (ci := 6) (v := .ref (a 61)) (C := RX6) (T := TX6) (N := 43) hx hb hts (fun w h => List.mem_cons_of_mem _ (inWX6 w h)) hown hK hP 45 at_45 rfl 24 (by decide) (hts _ (List.mem_cons_of_mem _ kw_t3_65)) (fun _ h9 => h9) rfl dX6_lockedOut_63 ?_
                    refine lv_bipush (v := 10) hx hb dX6_lockedOut_66 (by decide) ?_
                    refine lv_iload_n hx hb dX6_lockedOut_68 rfl (lv_at hl 5 rfl) ?_
                    refine lv_imul hx hb dX6_lockedOut_69 ?_
                    refine lv_topi (fun t_20 et_20 => ?_)
                    refine lv_iload_n hx hb dX6_lockedOut_70 rfl (lv_at hl 2 rfl) ?_
                    refine lv_iadd hx hb dX6_lockedOut_71 ?_
                    refine lv_topi (fun t_21 et_21 => ?_)
                    have hm_22 : t_21 = nI (10 * i0 + i1) := kt_mad (C := 10) rfl ei0 ek1 et_20 et_21
                    refine va_iald hx hb hK hP 61 0 at_61 rfl (kt_inN hm_22 (by omega) (by decide)) dX6_lockedOut_72 ?_
                    refine lv_topi (fun t_23 et_23 => ?_)
                    rw [hm_22, nI_clamp (by omega)] at et_23
                    have hi_25 : i2 < 6 := kt_lt (N := 6) rfl (by decide) ek2 hi2 c_6
                    have hFc := mA_free (a := a) hS hA hAc
                    refine va_calli (va_runV (As := [.int p0, .int k2, .int t_23]) (rest := []) ⟨hx, hb, hml, hown, hts⟩ (c_X6_isGood l dC dI cI cZ cS cC cJ a v H.size p0 k2 t_23 hD gn (by omega) hB.self i0 (by omega) ei0 i2 (by omega) ek2) (cwV 3 hts (gV (fun w h => List.mem_cons_of_mem _ h) kw_t4_36 kw_t4_38 kw_s0_25 kw_t1_7 kw_t4_39) rfl rfl rfl (by decide +kernel) ⟨Nat.le_of_ble_eq_true rfl, Nat.le_of_ble_eq_true rfl⟩) ⟨fun av U g mk q => by obtain ⟨q0, q1, qP, qK, qN⟩ := q; exact ⟨q0, q1, qP, va_K.moved (u := U) (U := U.calling g mk av) (Vm.Alike.refl U.vm) qK, mN_same qN⟩, va_recv hK hP (ci := 6) (q0 := 45) rfl at_45, fun U hU hW => ⟨rfl, by rw [hU], by rw [hU]; exact hP, va_K.moved hW.alike hK, mN_warm hW hN⟩⟩ rfl rfl hl.1 rfl (lv_room (Nat.le_of_ble_eq_true rfl)) dX6_lockedOut_73 ⟨Nat.le_of_ble_eq_true rfl, Nat.le_of_ble_eq_true rfl⟩) hS (fun q _ h => hFc q h) hFc (fun r_24 _ t H locs ht hvm hw_24 hP _ _ hS => ?_)
                    have hP := kt_heap2 ht hP
                    clear ht hFc
                    have hP : va_P (dC, dI) vwCl (mW cI cZ cS cC cJ a v) H := hP
                    refine lv_if_eq (tgt := 83) hx hb dX6_lockedOut_76 (by decide) (fun c_26 => ?_) (fun c_26 => ?_)
                    · refine lv_iconst (v := 0) hx hb dX6_lockedOut_83 (by decide) ?_
                      refine lv_istore (lv' := [(4, .int 0), (5, .int k2), (3, .int k1), (2, .int y1_2), (0, .ref (a 45)), (1, .int p0)]) hx hb dX6_lockedOut_84 hl (by decide) rfl (fun ls hl => ?_)
                      obtain ⟨t_27, et_27⟩ : ∃ y : Int32, y = k2 + 1 := ⟨_, rfl⟩
                      refine lv_iinc (v := t_27) (lv' := [(5, .int t_27), (4, .int 0), (3, .int k1), (2, .int y1_2), (0, .ref (a 45)), (1, .int p0)]) hx hb dX6_lockedOut_86 hl (k := 1) rfl (by rw [et_27]; rfl) (by decide) rfl (fun ls hl => ?_)
                      refine lv_goto (tgt := 32) hx hb dX6_lockedOut_89 (by decide) ?_
                      exact ih2 (i2 + 1) t_27 0 _ _ _ (by omega) (by omega) (by rw [et_27, ek2]; exact nI_1 i2) hP hS (lv_sub hl [0, 1, 2, 3, 4, 5] rfl)
                    · refine lv_iconst (v := 1) hx hb dX6_lockedOut_79 (by decide) ?_
                      refine lv_goto (tgt := 84) hx hb dX6_lockedOut_80 (by decide) ?_
                      refine lv_istore (lv' := [(4, .int 1), (5, .int k2), (3, .int k1), (2, .int y1_2), (0, .ref (a 45)), (1, .int p0)]) hx hb dX6_lockedOut_84 hl (by decide) rfl (fun ls hl => ?_)
                      obtain ⟨t_28, et_28⟩ : ∃ y : Int32, y = k2 + 1 := ⟨_, rfl⟩
                      refine lv_iinc (v := t_28) (lv' := [(5, .int t_28), (4, .int 1), (3, .int k1), (2, .int y1_2), (0, .ref (a 45)), (1, .int p0)]) hx hb dX6_lockedOut_86 hl (k := 1) rfl (by rw [et_28]; rfl) (by decide) rfl (fun ls hl => ?_)
                      refine lv_goto (tgt := 32) hx hb dX6_lockedOut_89 (by decide) ?_
                      exact ih2 (i2 + 1) t_28 1 _ _ _ (by omega) (by omega) (by rw [et_28, ek2]; exact nI_1 i2) hP hS (lv_sub hl [0, 1, 2, 3, 4, 5] rfl)
          exact key2 (6 + 1) 0 0 1 _ _ _ (Nat.zero_le _) (by omega) rfl hP hS (lv_sub hl [0, 1, 2, 3, 4, 5] rfl)
        · refine lv_goto (tgt := 103) hx hb dX6_lockedOut_23 (by decide) ?_
          obtain ⟨t_29, et_29⟩ : ∃ y : Int32, y = k1 + 1 := ⟨_, rfl⟩
          refine lv_iinc (v := t_29) (lv' := [(3, .int t_29), (2, .int y1_2), (0, .ref (a 45)), (1, .int p0)]) hx hb dX6_lockedOut_103 hl (k := 0) rfl (by rw [et_29]; rfl) (by decide) rfl (fun ls hl => ?_)
          refine lv_goto (tgt := 4) hx hb dX6_lockedOut_106 (by decide) ?_
          have hi_30 : i1 < 10 := kt_lt (N := 10) rfl (by decide) ek1 hi1 c_1
          exact ih1 (i1 + 1) t_29 y1_2 _ _ _ (by omega) (by omega) (by rw [et_29, ek1]; exact nI_1 i1) hP hS (lv_sub hl [0, 1, 2, 3] rfl)
  exact key1 (10 + 1) 0 0 0 _ _ _ (Nat.zero_le _) (by omega) rfl hP hS (lv_sub hl [0, 1, 2, 3] rfl)

set_option maxHeartbeats 4000000 in
set_option maxRecDepth 100000 in
theorem c_X6_told (l : Launch) (dC : Nat → ClassId) (dI : Nat → Nat → Nat) (cI cZ cS cC cJ : ClassId) (a : Nat → Nat) (v : Nat → Nat → Int32) (sz : Nat) (p0 p1 : Int32) (hD : mDD a) (gn : Nat) (hn : gn < 200000) (hB : rB gn v v) (hL : rL v) : Met l yX6_told (Cond.code yX6_told cX6_told 3 (some .int) :: WW) ({ frames := 2, cells := 0, slots := 0, locals := 60 }) (va_Pc [.ref (a 45), .int p0, .int p1] (fun U => U.heap.size = sz ∧ va_P (dC, dI) vwCl (mW cI cZ cS cC cJ a v) U.heap ∧ va_K (dC, dI) vwCl [(cI, .int), (cZ, .boolean), (cS, .object RX3), (cC, .object RX0), (cJ, .long)] U ∧ mN U)) (va_Qi (fun (r : Int32) (u : Nat → Nat → Int32) => (rB gn v u) ∧ (rL u)) (fun (u : Nat → Nat → Int32) (t : State) => va_P (dC, dI) vwCl (mW cI cZ cS cC cJ a u) t.heap) (mA a sz)) 0 0 (mA a sz) := by
  refine Met.ofW (cc := cX6_told) (maxL := 3) (ret := (some .int)) (by decide) rfl ?_
  intro p e s m args below meth c s₁ B hml hv
  obtain ⟨rfl, hsz, hP, hK, hN⟩ := hv
  have hx := B.exec
  have hb := B.bytes
  have hr := B.returns
  have hts := atoms_spec (ws := Cond.code yX6_told cX6_told 3 (some .int) :: WW) B.pre
  have hown : s.vm.findClass RX6 = some m.cls := findClass_of_methodNamed B.named
  have hlocks := B.notSynchronized
  subst hsz
  have hAc : ∀ c, c < 81 → mA a s.heap.size (a c) := fun c h => Or.inl ⟨c, h, rfl⟩
  have hA : ∀ q : Nat, s.heap.size ≤ q → mA a s.heap.size q := fun q h => Or.inr h
  generalize hAe : mA a s.heap.size = A at hAc hA ⊢
  have hS : va_S A s.heap s.heap [] := va_S.rf
  have hl := lv_entry ([.ref (a 45), .int p0, .int p1]) (n := 3) (Nat.le_of_ble_eq_true rfl)
  rw [lg_entry_eq]
  generalize (lg_sl ([.ref (a 45), .int p0, .int p1]) ++ List.replicate (3 - (lg_sl ([.ref (a 45), .int p0, .int p1])).length) Slot.unset).toArray = ls at hl ⊢
  have hl : lv_has ls 3 [(0, .ref (a 45)), (1, .int p0), (2, .int p1)] := hl
  refine lv_aload_n hx hb dX6_told_0 rfl (lv_at hl 0 rfl) ?_
  refine lv_iconst (v := 0) hx hb dX6_told_1 (by decide) ?_
  refine va_put (D := (dC, dI)) (ci := 6) (v := .int 0) (ty := .int) (C := RX6) (T := TX6) (N := 43) hx hb hts (fun w h => List.mem_cons_of_mem _ (inWX6 w h)) tyX6 tyX6_ok nmX6 hown hK hP (mD_of hD hAc) hS 45 at_45 rfl 0 (by decide) (hts _ (List.mem_cons_of_mem _ kw_t3_41)) (fun _ h9 => h9) rfl (by decide +kernel) rfl rfl (Nat.le_of_ble_eq_true rfl) dX6_told_2 (fun H locs hP _ hS => ?_)
  obtain ⟨v_1, ev_1⟩ : ∃ z, z = mU v 45 (upd (v 45) 0 0) := ⟨_, rfl⟩
  have hP : va_P (dC, dI) vwCl (mW cI cZ cS cC cJ a v_1) H := by rw [ev_1]; exact mW_put hP (by omega) rfl
  have hB := hB.putO ev_1 (by decide)
  have hL := hL.putM ev_1 (by decide)
  refine lv_aload_n hx hb dX6_told_5 rfl (lv_at hl 0 rfl) ?_
  refine lv_iload_n hx hb dX6_told_6 rfl (lv_at hl 1 rfl) ?_
  have hFc := mA_free (a := a) hS hA hAc
  refine va_calli (va_runV (As := [.int p0]) (rest := []) ⟨hx, hb, hml, hown, hts⟩ (c_X6_isSecret l dC dI cI cZ cS cC cJ a v_1 H.size p0 hD gn (by omega) hB.self) (cwV 1 hts (gV (fun w h => List.mem_cons_of_mem _ h) kw_t3_183 kw_t3_185 kw_s0_12 kw_t1_7 kw_t3_186) rfl rfl rfl (by decide +kernel) ⟨Nat.le_of_ble_eq_true rfl, Nat.le_of_ble_eq_true rfl⟩) ⟨fun av U g mk q => by obtain ⟨q0, q1, qP, qK, qN⟩ := q; exact ⟨q0, q1, qP, va_K.moved (u := U) (U := U.calling g mk av) (Vm.Alike.refl U.vm) qK, mN_same qN⟩, va_recv hK hP (ci := 6) (q0 := 45) rfl at_45, fun U hU hW => ⟨rfl, by rw [hU], by rw [hU]; exact hP, va_K.moved hW.alike hK, mN_warm hW hN⟩⟩ rfl rfl hl.1 rfl (lv_room (Nat.le_of_ble_eq_true rfl)) dX6_told_7 ⟨Nat.le_of_ble_eq_true rfl, Nat.le_of_ble_eq_true rfl⟩) hS (fun q _ h => hFc q h) hFc (fun r_2 _ t H locs ht hvm hw_2 hP _ _ hS => ?_)
  have hP := kt_heap2 ht hP
  clear ht hFc
  have hP : va_P (dC, dI) vwCl (mW cI cZ cS cC cJ a v_1) H := hP
  rcases hw_2 with ⟨hz_3, hns_3⟩ | ⟨hz_3, ix_3, hx_3, ex_3, hlt_3⟩
  · subst hz_3
    refine lv_if_ne (tgt := 15) hx hb dX6_told_10 (by decide) (fun c_4 => absurd (by decide) c_4) (fun c_4 => ?_)
    refine lv_iconst (v := (-1)) hx hb dX6_told_13 (by decide) ?_
    exact W.iret (v := (-1)) hx hb hr (fun t ht hW => ⟨⟨(-1), v_1, rfl, ⟨hB, hL⟩, kt_heap ht hP⟩, hS.F ht⟩) hS.2.2 dX6_told_14
  · subst hz_3
    refine lv_if_ne (tgt := 15) hx hb dX6_told_10 (by decide) (fun c_5 => ?_) (fun c_5 => absurd c_5 (by decide))
    refine lv_iload_n hx hb dX6_told_15 rfl (lv_at hl 2 rfl) ?_
    rcases kt_sw_0_11 p1 with g_6 | g_6 | g_6 | g_6 | g_6 | g_6 | g_6 | g_6 | g_6 | g_6 | g_6 | g_6 | g_6
    · refine lv_tableIn (off := 64) (tgt := 80) hx hb dX6_told_16 (by rw [g_6]; decide) (by rw [g_6]; decide) (by rw [g_6]; decide) (by decide) ?_
      refine lv_aload_n hx hb dX6_told_80 rfl (lv_at hl 0 rfl) ?_
      refine va_get (D := (dC, dI)) (ci := 6) (v := .ref (a 46)) (C := RX6) (T := TX6) (N := 43) hx hb hts (fun w h => List.mem_cons_of_mem _ (inWX6 w h)) hown hK hP 45 at_45 rfl 9 (by decide) (hts _ (List.mem_cons_of_mem _ kw_t3_50)) (fun _ h9 => h9) rfl dX6_told_81 ?_
      refine lv_iload_n hx hb dX6_told_84 rfl (lv_at hl 1 rfl) ?_
      refine va_iald hx hb hK hP 46 0 at_46 rfl (kt_inN ex_3 (by omega) (by decide)) dX6_told_85 ?_
      refine lv_topi (fun t_7 et_7 => ?_)
      rw [ex_3, nI_clamp (by omega)] at et_7
      exact W.iret (v := t_7) hx hb hr (fun t ht hW => ⟨⟨t_7, v_1, rfl, ⟨hB, hL⟩, kt_heap ht hP⟩, hS.F ht⟩) hS.2.2 dX6_told_86
    · refine lv_tableIn (off := 71) (tgt := 87) hx hb dX6_told_16 (by rw [g_6]; decide) (by rw [g_6]; decide) (by rw [g_6]; decide) (by decide) ?_
      refine lv_aload_n hx hb dX6_told_87 rfl (lv_at hl 0 rfl) ?_
      refine va_get (D := (dC, dI)) (ci := 6) (v := .ref (a 47)) (C := RX6) (T := TX6) (N := 43) hx hb hts (fun w h => List.mem_cons_of_mem _ (inWX6 w h)) hown hK hP 45 at_45 rfl 10 (by decide) (hts _ (List.mem_cons_of_mem _ kw_t3_51)) (fun _ h9 => h9) rfl dX6_told_88 ?_
      refine lv_iload_n hx hb dX6_told_91 rfl (lv_at hl 1 rfl) ?_
      refine va_iald hx hb hK hP 47 0 at_47 rfl (kt_inN ex_3 (by omega) (by decide)) dX6_told_92 ?_
      refine lv_topi (fun t_8 et_8 => ?_)
      rw [ex_3, nI_clamp (by omega)] at et_8
      exact W.iret (v := t_8) hx hb hr (fun t ht hW => ⟨⟨t_8, v_1, rfl, ⟨hB, hL⟩, kt_heap ht hP⟩, hS.F ht⟩) hS.2.2 dX6_told_93
    · refine lv_tableIn (off := 78) (tgt := 94) hx hb dX6_told_16 (by rw [g_6]; decide) (by rw [g_6]; decide) (by rw [g_6]; decide) (by decide) ?_
      refine lv_aload_n hx hb dX6_told_94 rfl (lv_at hl 0 rfl) ?_
      refine va_get (D := (dC, dI)) (ci := 6) (v := .ref (a 48)) (C := RX6) (T := TX6) (N := 43) hx hb hts (fun w h => List.mem_cons_of_mem _ (inWX6 w h)) hown hK hP 45 at_45 rfl 11 (by decide) (hts _ (List.mem_cons_of_mem _ kw_t3_52)) (fun _ h9 => h9) rfl dX6_told_95 ?_
      refine lv_iload_n hx hb dX6_told_98 rfl (lv_at hl 1 rfl) ?_
      refine va_iald hx hb hK hP 48 0 at_48 rfl (kt_inN ex_3 (by omega) (by decide)) dX6_told_99 ?_
      refine lv_topi (fun t_9 et_9 => ?_)
      rw [ex_3, nI_clamp (by omega)] at et_9
      exact W.iret (v := t_9) hx hb hr (fun t ht hW => ⟨⟨t_9, v_1, rfl, ⟨hB, hL⟩, kt_heap ht hP⟩, hS.F ht⟩) hS.2.2 dX6_told_100
    · refine lv_tableIn (off := 85) (tgt := 101) hx hb dX6_told_16 (by rw [g_6]; decide) (by rw [g_6]; decide) (by rw [g_6]; decide) (by decide) ?_
      refine lv_aload_n hx hb dX6_told_101 rfl (lv_at hl 0 rfl) ?_
      refine va_get (D := (dC, dI)) (ci := 6) (v := .ref (a 49)) (C := RX6) (T := TX6) (N := 43) hx hb hts (fun w h => List.mem_cons_of_mem _ (inWX6 w h)) hown hK hP 45 at_45 rfl 12 (by decide) (hts _ (List.mem_cons_of_mem _ kw_t3_53)) (fun _ h9 => h9) rfl dX6_told_102 ?_
      refine lv_iload_n hx hb dX6_told_105 rfl (lv_at hl 1 rfl) ?_
      refine va_iald hx hb hK hP 49 0 at_49 rfl (kt_inN ex_3 (by omega) (by decide)) dX6_told_106 ?_
      refine lv_topi (fun t_10 et_10 => ?_)
      rw [ex_3, nI_clamp (by omega)] at et_10
      exact W.iret (v := t_10) hx hb hr (fun t ht hW => ⟨⟨t_10, v_1, rfl, ⟨hB, hL⟩, kt_heap ht hP⟩, hS.F ht⟩) hS.2.2 dX6_told_107
    · refine lv_tableIn (off := 92) (tgt := 108) hx hb dX6_told_16 (by rw [g_6]; decide) (by rw [g_6]; decide) (by rw [g_6]; decide) (by decide) ?_
      refine lv_aload_n hx hb dX6_told_108 rfl (lv_at hl 0 rfl) ?_
      refine va_get (D := (dC, dI)) (ci := 6) (v := .ref (a 50)) (C := RX6) (T := TX6) (N := 43) hx hb hts (fun w h => List.mem_cons_of_mem _ (inWX6 w h)) hown hK hP 45 at_45 rfl 13 (by decide) (hts _ (List.mem_cons_of_mem _ kw_t3_54)) (fun _ h9 => h9) rfl dX6_told_109 ?_
      refine lv_iload_n hx hb dX6_told_112 rfl (lv_at hl 1 rfl) ?_
      refine va_iald hx hb hK hP 50 0 at_50 rfl (kt_inN ex_3 (by omega) (by decide)) dX6_told_113 ?_
      refine lv_topi (fun t_11 et_11 => ?_)
      rw [ex_3, nI_clamp (by omega)] at et_11
      exact W.iret (v := t_11) hx hb hr (fun t ht hW => ⟨⟨t_11, v_1, rfl, ⟨hB, hL⟩, kt_heap ht hP⟩, hS.F ht⟩) hS.2.2 dX6_told_114
    · refine lv_tableIn (off := 99) (tgt := 115) hx hb dX6_told_16 (by rw [g_6]; decide) (by rw [g_6]; decide) (by rw [g_6]; decide) (by decide) ?_
      refine lv_aload_n hx hb dX6_told_115 rfl (lv_at hl 0 rfl) ?_
      refine va_get (D := (dC, dI)) (ci := 6) (v := .ref (a 52)) (C := RX6) (T := TX6) (N := 43) hx hb hts (fun w h => List.mem_cons_of_mem _ (inWX6 w h)) hown hK hP 45 at_45 rfl 15 (by decide) (hts _ (List.mem_cons_of_mem _ kw_t3_56)) (fun _ h9 => h9) rfl dX6_told_116 ?_
      refine lv_iload_n hx hb dX6_told_119 rfl (lv_at hl 1 rfl) ?_
      refine va_iald hx hb hK hP 52 0 at_52 rfl (kt_inN ex_3 (by omega) (by decide)) dX6_told_120 ?_
      refine lv_topi (fun t_12 et_12 => ?_)
      rw [ex_3, nI_clamp (by omega)] at et_12
      exact W.iret (v := t_12) hx hb hr (fun t ht hW => ⟨⟨t_12, v_1, rfl, ⟨hB, hL⟩, kt_heap ht hP⟩, hS.F ht⟩) hS.2.2 dX6_told_121
    · refine lv_tableIn (off := 106) (tgt := 122) hx hb dX6_told_16 (by rw [g_6]; decide) (by rw [g_6]; decide) (by rw [g_6]; decide) (by decide) ?_
      refine lv_aload_n hx hb dX6_told_122 rfl (lv_at hl 0 rfl) ?_
      refine va_get (D := (dC, dI)) (ci := 6) (v := .ref (a 51)) (C := RX6) (T := TX6) (N := 43) hx hb hts (fun w h => List.mem_cons_of_mem _ (inWX6 w h)) hown hK hP 45 at_45 rfl 14 (by decide) (hts _ (List.mem_cons_of_mem _ kw_t3_55)) (fun _ h9 => h9) rfl dX6_told_123 ?_
      refine lv_iload_n hx hb dX6_told_126 rfl (lv_at hl 1 rfl) ?_
      refine va_iald hx hb hK hP 51 0 at_51 rfl (kt_inN ex_3 (by omega) (by decide)) dX6_told_127 ?_
      refine lv_topi (fun t_13 et_13 => ?_)
      rw [ex_3, nI_clamp (by omega)] at et_13
      exact W.iret (v := t_13) hx hb hr (fun t ht hW => ⟨⟨t_13, v_1, rfl, ⟨hB, hL⟩, kt_heap ht hP⟩, hS.F ht⟩) hS.2.2 dX6_told_128
    · refine lv_tableIn (off := 113) (tgt := 129) hx hb dX6_told_16 (by rw [g_6]; decide) (by rw [g_6]; decide) (by rw [g_6]; decide) (by decide) ?_
      refine lv_aload_n hx hb dX6_told_129 rfl (lv_at hl 0 rfl) ?_
      refine lv_iload_n hx hb dX6_told_130 rfl (lv_at hl 1 rfl) ?_
      have hFc := mA_free (a := a) hS hA hAc
      refine va_calli (va_runV (As := [.int p0]) (rest := []) ⟨hx, hb, hml, hown, hts⟩ (c_X6_age l dC dI cI cZ cS cC cJ a v_1 H.size p0 hD gn (by omega) hB.self ix_3 (by omega) ex_3) (cwV 1 hts (gV (fun w h => List.mem_cons_of_mem _ h) kw_t4_48 kw_t4_50 kw_s0_26 kw_t1_7 kw_t4_51) rfl rfl rfl (by decide +kernel) ⟨Nat.le_of_ble_eq_true rfl, Nat.le_of_ble_eq_true rfl⟩) ⟨fun av U g mk q => by obtain ⟨q0, q1, qP, qK, qN⟩ := q; exact ⟨q0, q1, qP, va_K.moved (u := U) (U := U.calling g mk av) (Vm.Alike.refl U.vm) qK, mN_same qN⟩, va_recv hK hP (ci := 6) (q0 := 45) rfl at_45, fun U hU hW => ⟨rfl, by rw [hU], by rw [hU]; exact hP, va_K.moved hW.alike hK, mN_warm hW hN⟩⟩ rfl rfl hl.1 rfl (lv_room (Nat.le_of_ble_eq_true rfl)) dX6_told_131 ⟨Nat.le_of_ble_eq_true rfl, Nat.le_of_ble_eq_true rfl⟩) hS (fun q _ h => hFc q h) hFc (fun r_14 _ t H locs ht hvm hw_14 hP _ _ hS => ?_)
      have hP := kt_heap2 ht hP
      clear ht hFc
      have hP : va_P (dC, dI) vwCl (mW cI cZ cS cC cJ a v_1) H := hP
      exact W.iret (v := r_14) hx hb hr (fun t ht hW => ⟨⟨r_14, v_1, rfl, ⟨hB, hL⟩, kt_heap ht hP⟩, hS.F ht⟩) hS.2.2 dX6_told_134
    · refine lv_tableIn (off := 119) (tgt := 135) hx hb dX6_told_16 (by rw [g_6]; decide) (by rw [g_6]; decide) (by rw [g_6]; decide) (by decide) ?_
      refine lv_aload_n hx hb dX6_told_135 rfl (lv_at hl 0 rfl) ?_
      refine va_get (D := (dC, dI)) (ci := 6) (v := .ref (a 52)) (C := RX6) (T := TX6) (N := 43) hx hb hts (fun w h => List.mem_cons_of_mem _ (inWX6 w h)) hown hK hP 45 at_45 rfl 15 (by decide) (hts _ (List.mem_cons_of_mem _ kw_t3_56)) (fun _ h9 => h9) rfl dX6_told_136 ?_
      refine lv_iload_n hx hb dX6_told_139 rfl (lv_at hl 1 rfl) ?_
      refine va_iald hx hb hK hP 52 0 at_52 rfl (kt_inN ex_3 (by omega) (by decide)) dX6_told_140 ?_
      refine lv_topi (fun t_15 et_15 => ?_)
      rw [ex_3, nI_clamp (by omega)] at et_15
      refine lv_if_ne (tgt := 148) hx hb dX6_told_141 (by decide) (fun c_16 => ?_) (fun c_16 => ?_)
      · refine lv_aload_n hx hb dX6_told_148 rfl (lv_at hl 0 rfl) ?_
        refine va_get (D := (dC, dI)) (ci := 6) (v := .ref (a 54)) (C := RX6) (T := TX6) (N := 43) hx hb hts (fun w h => List.mem_cons_of_mem _ (inWX6 w h)) hown hK hP 45 at_45 rfl 17 (by decide) (hts _ (List.mem_cons_of_mem _ kw_t3_58)) (fun _ h9 => h9) rfl dX6_told_149 ?_
        refine lv_iload_n hx hb dX6_told_152 rfl (lv_at hl 1 rfl) ?_
        refine va_iald hx hb hK hP 54 0 at_54 rfl (kt_inN ex_3 (by omega) (by decide)) dX6_told_153 ?_
        refine lv_topi (fun t_17 et_17 => ?_)
        rw [ex_3, nI_clamp (by omega)] at et_17
        exact W.iret (v := t_17) hx hb hr (fun t ht hW => ⟨⟨t_17, v_1, rfl, ⟨hB, hL⟩, kt_heap ht hP⟩, hS.F ht⟩) hS.2.2 dX6_told_154
      · refine lv_iconst (v := 0) hx hb dX6_told_144 (by decide) ?_
        refine lv_goto (tgt := 154) hx hb dX6_told_145 (by decide) ?_
        exact W.iret (v := 0) hx hb hr (fun t ht hW => ⟨⟨0, v_1, rfl, ⟨hB, hL⟩, kt_heap ht hP⟩, hS.F ht⟩) hS.2.2 dX6_told_154
    · refine lv_tableIn (off := 139) (tgt := 155) hx hb dX6_told_16 (by rw [g_6]; decide) (by rw [g_6]; decide) (by rw [g_6]; decide) (by decide) ?_
      refine lv_aload_n hx hb dX6_told_155 rfl (lv_at hl 0 rfl) ?_
      refine lv_iload_n hx hb dX6_told_156 rfl (lv_at hl 1 rfl) ?_
      have hFc := mA_free (a := a) hS hA hAc
      refine va_calli (va_runV (As := [.int p0]) (rest := []) ⟨hx, hb, hml, hown, hts⟩ (c_X6_lockedOut l dC dI cI cZ cS cC cJ a v_1 H.size p0 hD gn (by omega) hB.self ix_3 (by omega) ex_3) (cwV 1 hts (gV (fun w h => List.mem_cons_of_mem _ h) kw_t4_53 kw_t4_55 kw_s0_27 kw_t1_7 kw_t4_56) rfl rfl rfl (by decide +kernel) ⟨Nat.le_of_ble_eq_true rfl, Nat.le_of_ble_eq_true rfl⟩) ⟨fun av U g mk q => by obtain ⟨q0, q1, qP, qK, qN⟩ := q; exact ⟨q0, q1, qP, va_K.moved (u := U) (U := U.calling g mk av) (Vm.Alike.refl U.vm) qK, mN_same qN⟩, va_recv hK hP (ci := 6) (q0 := 45) rfl at_45, fun U hU hW => ⟨rfl, by rw [hU], by rw [hU]; exact hP, va_K.moved hW.alike hK, mN_warm hW hN⟩⟩ rfl rfl hl.1 rfl (lv_room (Nat.le_of_ble_eq_true rfl)) dX6_told_157 ⟨Nat.le_of_ble_eq_true rfl, Nat.le_of_ble_eq_true rfl⟩) hS (fun q _ h => hFc q h) hFc (fun r_18 _ t H locs ht hvm hw_18 hP _ _ hS => ?_)
      have hP := kt_heap2 ht hP
      clear ht hFc
      have hP : va_P (dC, dI) vwCl (mW cI cZ cS cC cJ a v_1) H := hP
      exact W.iret (v := r_18) hx hb hr (fun t ht hW => ⟨⟨r_18, v_1, rfl, ⟨hB, hL⟩, kt_heap ht hP⟩, hS.F ht⟩) hS.2.2 dX6_told_160
    · refine lv_tableIn (off := 145) (tgt := 161) hx hb dX6_told_16 (by rw [g_6]; decide) (by rw [g_6]; decide) (by rw [g_6]; decide) (by decide) ?_
      refine lv_aload_n hx hb dX6_told_161 rfl (lv_at hl 0 rfl) ?_
      refine va_get (D := (dC, dI)) (ci := 6) (v := .ref (a 56)) (C := RX6) (T := TX6) (N := 43) hx hb hts (fun w h => List.mem_cons_of_mem _ (inWX6 w h)) hown hK hP 45 at_45 rfl 19 (by decide) (hts _ (List.mem_cons_of_mem _ kw_t3_60)) (fun _ h9 => h9) rfl dX6_told_162 ?_
      refine lv_iload_n hx hb dX6_told_165 rfl (lv_at hl 1 rfl) ?_
      refine va_iald hx hb hK hP 56 0 at_56 rfl (kt_inN ex_3 (by omega) (by decide)) dX6_told_166 ?_
      refine lv_topi (fun t_19 et_19 => ?_)
      rw [ex_3, nI_clamp (by omega)] at et_19
      exact W.iret (v := t_19) hx hb hr (fun t ht hW => ⟨⟨t_19, v_1, rfl, ⟨hB, hL⟩, kt_heap ht hP⟩, hS.F ht⟩) hS.2.2 dX6_told_167
    · refine lv_tableIn (off := 152) (tgt := 168) hx hb dX6_told_16 (by rw [g_6]; decide) (by rw [g_6]; decide) (by rw [g_6]; decide) (by decide) ?_
      refine lv_aload_n hx hb dX6_told_168 rfl (lv_at hl 0 rfl) ?_
      refine va_get (D := (dC, dI)) (ci := 6) (v := .ref (a 52)) (C := RX6) (T := TX6) (N := 43) hx hb hts (fun w h => List.mem_cons_of_mem _ (inWX6 w h)) hown hK hP 45 at_45 rfl 15 (by decide) (hts _ (List.mem_cons_of_mem _ kw_t3_56)) (fun _ h9 => h9) rfl dX6_told_169 ?_
      refine lv_iload_n hx hb dX6_told_172 rfl (lv_at hl 1 rfl) ?_
      refine va_iald hx hb hK hP 52 0 at_52 rfl (kt_inN ex_3 (by omega) (by decide)) dX6_told_173 ?_
      refine lv_topi (fun t_20 et_20 => ?_)
      rw [ex_3, nI_clamp (by omega)] at et_20
      refine lv_if_ne (tgt := 181) hx hb dX6_told_174 (by decide) (fun c_21 => ?_) (fun c_21 => ?_)
      · refine lv_aload_n hx hb dX6_told_181 rfl (lv_at hl 0 rfl) ?_
        refine va_get (D := (dC, dI)) (ci := 6) (v := .ref (a 53)) (C := RX6) (T := TX6) (N := 43) hx hb hts (fun w h => List.mem_cons_of_mem _ (inWX6 w h)) hown hK hP 45 at_45 rfl 16 (by decide) (hts _ (List.mem_cons_of_mem _ kw_t3_57)) (fun _ h9 => h9) rfl dX6_told_182 ?_
        refine lv_iload_n hx hb dX6_told_185 rfl (lv_at hl 1 rfl) ?_
        refine va_iald hx hb hK hP 53 0 at_53 rfl (kt_inN ex_3 (by omega) (by decide)) dX6_told_186 ?_
        refine lv_topi (fun t_22 et_22 => ?_)
        rw [ex_3, nI_clamp (by omega)] at et_22
        exact W.iret (v := t_22) hx hb hr (fun t ht hW => ⟨⟨t_22, v_1, rfl, ⟨hB, hL⟩, kt_heap ht hP⟩, hS.F ht⟩) hS.2.2 dX6_told_187
      · refine lv_iconst (v := (-1)) hx hb dX6_told_177 (by decide) ?_
        refine lv_goto (tgt := 187) hx hb dX6_told_178 (by decide) ?_
        exact W.iret (v := (-1)) hx hb hr (fun t ht hW => ⟨⟨(-1), v_1, rfl, ⟨hB, hL⟩, kt_heap ht hP⟩, hS.F ht⟩) hS.2.2 dX6_told_187
    · refine lv_tableOut (tgt := 188) hx hb dX6_told_16 g_6 (by decide) ?_
      refine lv_iconst (v := (-1)) hx hb dX6_told_188 (by decide) ?_
      exact W.iret (v := (-1)) hx hb hr (fun t ht hW => ⟨⟨(-1), v_1, rfl, ⟨hB, hL⟩, kt_heap ht hP⟩, hS.F ht⟩) hS.2.2 dX6_told_189

set_option maxHeartbeats 4000000 in
set_option maxRecDepth 100000 in
theorem c_X6_has (l : Launch) (dC : Nat → ClassId) (dI : Nat → Nat → Nat) (cI cZ cS cC cJ : ClassId) (a : Nat → Nat) (v : Nat → Nat → Int32) (sz : Nat) (p0 p1 : Int32) (hD : mDD a) (gn : Nat) (hn : gn < 200000) (hB : rB gn v v) (hL : rL v) : Met l yX6_has (Cond.code yX6_has cX6_has 3 (some .int) :: WW) ({ frames := 2, cells := 0, slots := 0, locals := 60 }) (va_Pc [.ref (a 45), .int p0, .int p1] (fun U => U.heap.size = sz ∧ va_P (dC, dI) vwCl (mW cI cZ cS cC cJ a v) U.heap ∧ va_K (dC, dI) vwCl [(cI, .int), (cZ, .boolean), (cS, .object RX3), (cC, .object RX0), (cJ, .long)] U ∧ mN U)) (va_Qi (fun (r : Int32) (u : Nat → Nat → Int32) => (rB gn v u) ∧ (rL u)) (fun (u : Nat → Nat → Int32) (t : State) => va_P (dC, dI) vwCl (mW cI cZ cS cC cJ a u) t.heap) (mA a sz)) 0 0 (mA a sz) := by
  refine Met.ofW (cc := cX6_has) (maxL := 3) (ret := (some .int)) (by decide) rfl ?_
  intro p e s m args below meth c s₁ B hml hv
  obtain ⟨rfl, hsz, hP, hK, hN⟩ := hv
  have hx := B.exec
  have hb := B.bytes
  have hr := B.returns
  have hts := atoms_spec (ws := Cond.code yX6_has cX6_has 3 (some .int) :: WW) B.pre
  have hown : s.vm.findClass RX6 = some m.cls := findClass_of_methodNamed B.named
  have hlocks := B.notSynchronized
  subst hsz
  have hAc : ∀ c, c < 81 → mA a s.heap.size (a c) := fun c h => Or.inl ⟨c, h, rfl⟩
  have hA : ∀ q : Nat, s.heap.size ≤ q → mA a s.heap.size q := fun q h => Or.inr h
  generalize hAe : mA a s.heap.size = A at hAc hA ⊢
  have hS : va_S A s.heap s.heap [] := va_S.rf
  have hl := lv_entry ([.ref (a 45), .int p0, .int p1]) (n := 3) (Nat.le_of_ble_eq_true rfl)
  rw [lg_entry_eq]
  generalize (lg_sl ([.ref (a 45), .int p0, .int p1]) ++ List.replicate (3 - (lg_sl ([.ref (a 45), .int p0, .int p1])).length) Slot.unset).toArray = ls at hl ⊢
  have hl : lv_has ls 3 [(0, .ref (a 45)), (1, .int p0), (2, .int p1)] := hl
  refine lv_aload_n hx hb dX6_has_0 rfl (lv_at hl 0 rfl) ?_
  refine lv_iconst (v := 0) hx hb dX6_has_1 (by decide) ?_
  refine va_put (D := (dC, dI)) (ci := 6) (v := .int 0) (ty := .int) (C := RX6) (T := TX6) (N := 43) hx hb hts (fun w h => List.mem_cons_of_mem _ (inWX6 w h)) tyX6 tyX6_ok nmX6 hown hK hP (mD_of hD hAc) hS 45 at_45 rfl 0 (by decide) (hts _ (List.mem_cons_of_mem _ kw_t3_41)) (fun _ h9 => h9) rfl (by decide +kernel) rfl rfl (Nat.le_of_ble_eq_true rfl) dX6_has_2 (fun H locs hP _ hS => ?_)
  obtain ⟨v_1, ev_1⟩ : ∃ z, z = mU v 45 (upd (v 45) 0 0) := ⟨_, rfl⟩
  have hP : va_P (dC, dI) vwCl (mW cI cZ cS cC cJ a v_1) H := by rw [ev_1]; exact mW_put hP (by omega) rfl
  have hB := hB.putO ev_1 (by decide)
  have hL := hL.putM ev_1 (by decide)
  refine lv_aload_n hx hb dX6_has_5 rfl (lv_at hl 0 rfl) ?_
  refine lv_iload_n hx hb dX6_has_6 rfl (lv_at hl 1 rfl) ?_
  refine lv_iload_n hx hb dX6_has_7 rfl (lv_at hl 2 rfl) ?_
  have hFc := mA_free (a := a) hS hA hAc
  refine va_calli (va_runV (As := [.int p0, .int p1]) (rest := []) ⟨hx, hb, hml, hown, hts⟩ (c_X6_isHolder l dC dI cI cZ cS cC cJ a v_1 H.size p0 p1 hD gn (by omega) hB.self) (cwV 2 hts (gV (fun w h => List.mem_cons_of_mem _ h) kw_t4_24 kw_t4_26 kw_s0_22 kw_t1_7 kw_t4_27) rfl rfl rfl (by decide +kernel) ⟨Nat.le_of_ble_eq_true rfl, Nat.le_of_ble_eq_true rfl⟩) ⟨fun av U g mk q => by obtain ⟨q0, q1, qP, qK, qN⟩ := q; exact ⟨q0, q1, qP, va_K.moved (u := U) (U := U.calling g mk av) (Vm.Alike.refl U.vm) qK, mN_same qN⟩, va_recv hK hP (ci := 6) (q0 := 45) rfl at_45, fun U hU hW => ⟨rfl, by rw [hU], by rw [hU]; exact hP, va_K.moved hW.alike hK, mN_warm hW hN⟩⟩ rfl rfl hl.1 rfl (lv_room (Nat.le_of_ble_eq_true rfl)) dX6_has_8 ⟨Nat.le_of_ble_eq_true rfl, Nat.le_of_ble_eq_true rfl⟩) hS (fun q _ h => hFc q h) hFc (fun r_2 _ t H locs ht hvm hw_2 hP _ _ hS => ?_)
  have hP := kt_heap2 ht hP
  clear ht hFc
  have hP : va_P (dC, dI) vwCl (mW cI cZ cS cC cJ a v_1) H := hP
  rcases hw_2 with hz_3 | ⟨hz_3, ⟨ix_3, hx_3, ex_3⟩, ⟨iy_3, hy_3, ey_3⟩⟩
  · subst hz_3
    refine lv_if_eq (tgt := 28) hx hb dX6_has_11 (by decide) (fun c_4 => ?_) (fun c_4 => absurd (by decide) c_4)
    refine lv_iconst (v := (-1)) hx hb dX6_has_28 (by decide) ?_
    exact W.iret (v := (-1)) hx hb hr (fun t ht hW => ⟨⟨(-1), v_1, rfl, ⟨hB, hL⟩, kt_heap ht hP⟩, hS.F ht⟩) hS.2.2 dX6_has_29
  · subst hz_3
    refine lv_if_eq (tgt := 28) hx hb dX6_has_11 (by decide) (fun c_5 => absurd c_5 (by decide)) (fun c_5 => ?_)
    refine lv_aload_n hx hb dX6_has_14 rfl (lv_at hl 0 rfl) ?_
    refine va_get (D := (dC, dI)) (ci := 6) (v := .ref (a 61)) (C := RX6) (T := TX6) (N := 43) hx hb hts (fun w h => List.mem_cons_of_mem _ (inWX6 w h)) hown hK hP 45 at_45 rfl 24 (by decide) (hts _ (List.mem_cons_of_mem _ kw_t3_65)) (fun _ h9 => h9) rfl dX6_has_15 ?_
    refine lv_bipush (v := 10) hx hb dX6_has_18 (by decide) ?_
    refine lv_iload_n hx hb dX6_has_20 rfl (lv_at hl 2 rfl) ?_
    refine lv_imul hx hb dX6_has_21 ?_
    refine lv_topi (fun t_6 et_6 => ?_)
    refine lv_iload_n hx hb dX6_has_22 rfl (lv_at hl 1 rfl) ?_
    refine lv_iadd hx hb dX6_has_23 ?_
    refine lv_topi (fun t_7 et_7 => ?_)
    have hm_8 : t_7 = nI (10 * ix_3 + iy_3) := kt_mad (C := 10) rfl ex_3 ey_3 et_6 et_7
    refine va_iald hx hb hK hP 61 0 at_61 rfl (kt_inN hm_8 (by omega) (by decide)) dX6_has_24 ?_
    refine lv_topi (fun t_9 et_9 => ?_)
    rw [hm_8, nI_clamp (by omega)] at et_9
    refine lv_goto (tgt := 29) hx hb dX6_has_25 (by decide) ?_
    exact W.iret (v := t_9) hx hb hr (fun t ht hW => ⟨⟨t_9, v_1, rfl, ⟨hB, hL⟩, kt_heap ht hP⟩, hS.F ht⟩) hS.2.2 dX6_has_29

set_option maxHeartbeats 4000000 in
set_option maxRecDepth 100000 in
theorem c_X6_good (l : Launch) (dC : Nat → ClassId) (dI : Nat → Nat → Nat) (cI cZ cS cC cJ : ClassId) (a : Nat → Nat) (v : Nat → Nat → Int32) (sz : Nat) (p0 p1 p2 : Int32) (hD : mDD a) (gn : Nat) (hn : gn < 200000) (hB : rB gn v v) (hL : rL v) : Met l yX6_good (Cond.code yX6_good cX6_good 4 (some .int) :: WW) ({ frames := 2, cells := 0, slots := 0, locals := 60 }) (va_Pc [.ref (a 45), .int p0, .int p1, .int p2] (fun U => U.heap.size = sz ∧ va_P (dC, dI) vwCl (mW cI cZ cS cC cJ a v) U.heap ∧ va_K (dC, dI) vwCl [(cI, .int), (cZ, .boolean), (cS, .object RX3), (cC, .object RX0), (cJ, .long)] U ∧ mN U)) (va_Qi (fun (r : Int32) (u : Nat → Nat → Int32) => (rB gn v u) ∧ (rL u)) (fun (u : Nat → Nat → Int32) (t : State) => va_P (dC, dI) vwCl (mW cI cZ cS cC cJ a u) t.heap) (mA a sz)) 0 0 (mA a sz) := by
  refine Met.ofW (cc := cX6_good) (maxL := 4) (ret := (some .int)) (by decide) rfl ?_
  intro p e s m args below meth c s₁ B hml hv
  obtain ⟨rfl, hsz, hP, hK, hN⟩ := hv
  have hx := B.exec
  have hb := B.bytes
  have hr := B.returns
  have hts := atoms_spec (ws := Cond.code yX6_good cX6_good 4 (some .int) :: WW) B.pre
  have hown : s.vm.findClass RX6 = some m.cls := findClass_of_methodNamed B.named
  have hlocks := B.notSynchronized
  subst hsz
  have hAc : ∀ c, c < 81 → mA a s.heap.size (a c) := fun c h => Or.inl ⟨c, h, rfl⟩
  have hA : ∀ q : Nat, s.heap.size ≤ q → mA a s.heap.size q := fun q h => Or.inr h
  generalize hAe : mA a s.heap.size = A at hAc hA ⊢
  have hS : va_S A s.heap s.heap [] := va_S.rf
  have hl := lv_entry ([.ref (a 45), .int p0, .int p1, .int p2]) (n := 4) (Nat.le_of_ble_eq_true rfl)
  rw [lg_entry_eq]
  generalize (lg_sl ([.ref (a 45), .int p0, .int p1, .int p2]) ++ List.replicate (4 - (lg_sl ([.ref (a 45), .int p0, .int p1, .int p2])).length) Slot.unset).toArray = ls at hl ⊢
  have hl : lv_has ls 4 [(0, .ref (a 45)), (1, .int p0), (2, .int p1), (3, .int p2)] := hl
  refine lv_aload_n hx hb dX6_good_0 rfl (lv_at hl 0 rfl) ?_
  refine lv_iconst (v := 0) hx hb dX6_good_1 (by decide) ?_
  refine va_put (D := (dC, dI)) (ci := 6) (v := .int 0) (ty := .int) (C := RX6) (T := TX6) (N := 43) hx hb hts (fun w h => List.mem_cons_of_mem _ (inWX6 w h)) tyX6 tyX6_ok nmX6 hown hK hP (mD_of hD hAc) hS 45 at_45 rfl 0 (by decide) (hts _ (List.mem_cons_of_mem _ kw_t3_41)) (fun _ h9 => h9) rfl (by decide +kernel) rfl rfl (Nat.le_of_ble_eq_true rfl) dX6_good_2 (fun H locs hP _ hS => ?_)
  obtain ⟨v_1, ev_1⟩ : ∃ z, z = mU v 45 (upd (v 45) 0 0) := ⟨_, rfl⟩
  have hP : va_P (dC, dI) vwCl (mW cI cZ cS cC cJ a v_1) H := by rw [ev_1]; exact mW_put hP (by omega) rfl
  have hB := hB.putO ev_1 (by decide)
  have hL := hL.putM ev_1 (by decide)
  refine lv_aload_n hx hb dX6_good_5 rfl (lv_at hl 0 rfl) ?_
  refine lv_iload_n hx hb dX6_good_6 rfl (lv_at hl 1 rfl) ?_
  refine lv_iload_n hx hb dX6_good_7 rfl (lv_at hl 2 rfl) ?_
  have hFc := mA_free (a := a) hS hA hAc
  refine va_calli (va_runV (As := [.int p0, .int p1]) (rest := []) ⟨hx, hb, hml, hown, hts⟩ (c_X6_isChecker l dC dI cI cZ cS cC cJ a v_1 H.size p0 p1 hD gn (by omega) hB.self) (cwV 2 hts (gV (fun w h => List.mem_cons_of_mem _ h) kw_t4_28 kw_t4_30 kw_s0_23 kw_t1_7 kw_t4_31) rfl rfl rfl (by decide +kernel) ⟨Nat.le_of_ble_eq_true rfl, Nat.le_of_ble_eq_true rfl⟩) ⟨fun av U g mk q => by obtain ⟨q0, q1, qP, qK, qN⟩ := q; exact ⟨q0, q1, qP, va_K.moved (u := U) (U := U.calling g mk av) (Vm.Alike.refl U.vm) qK, mN_same qN⟩, va_recv hK hP (ci := 6) (q0 := 45) rfl at_45, fun U hU hW => ⟨rfl, by rw [hU], by rw [hU]; exact hP, va_K.moved hW.alike hK, mN_warm hW hN⟩⟩ rfl rfl hl.1 rfl (lv_room (Nat.le_of_ble_eq_true rfl)) dX6_good_8 ⟨Nat.le_of_ble_eq_true rfl, Nat.le_of_ble_eq_true rfl⟩) hS (fun q _ h => hFc q h) hFc (fun r_2 _ t H locs ht hvm hw_2 hP _ _ hS => ?_)
  have hP := kt_heap2 ht hP
  clear ht hFc
  have hP : va_P (dC, dI) vwCl (mW cI cZ cS cC cJ a v_1) H := hP
  rcases hw_2 with hz_3 | ⟨hz_3, ⟨ix_3, hx_3, ex_3⟩, ⟨iy_3, hy_3, ey_3⟩⟩
  · subst hz_3
    refine lv_if_ne (tgt := 16) hx hb dX6_good_11 (by decide) (fun c_4 => absurd (by decide) c_4) (fun c_4 => ?_)
    refine lv_iconst (v := (-1)) hx hb dX6_good_14 (by decide) ?_
    exact W.iret (v := (-1)) hx hb hr (fun t ht hW => ⟨⟨(-1), v_1, rfl, ⟨hB, hL⟩, kt_heap ht hP⟩, hS.F ht⟩) hS.2.2 dX6_good_15
  · subst hz_3
    refine lv_if_ne (tgt := 16) hx hb dX6_good_11 (by decide) (fun c_5 => ?_) (fun c_5 => absurd c_5 (by decide))
    refine lv_iload_n hx hb dX6_good_16 rfl (lv_at hl 3 rfl) ?_
    refine lv_if_lt (tgt := 34) hx hb dX6_good_17 (by decide) (fun c_6 => ?_) (fun c_6 => ?_)
    · refine lv_iconst (v := 0) hx hb dX6_good_34 (by decide) ?_
      exact W.iret (v := 0) hx hb hr (fun t ht hW => ⟨⟨0, v_1, rfl, ⟨hB, hL⟩, kt_heap ht hP⟩, hS.F ht⟩) hS.2.2 dX6_good_35
    · refine lv_aload_n hx hb dX6_good_20 rfl (lv_at hl 0 rfl) ?_
      refine lv_iload_n hx hb dX6_good_21 rfl (lv_at hl 2 rfl) ?_
      refine lv_iload_n hx hb dX6_good_22 rfl (lv_at hl 1 rfl) ?_
      refine lv_iload_n hx hb dX6_good_23 rfl (lv_at hl 3 rfl) ?_
      have hFc := mA_free (a := a) hS hA hAc
      refine va_calli (va_runV (As := [.int p1, .int p0, .int p2]) (rest := []) ⟨hx, hb, hml, hown, hts⟩ (c_X6_isGood l dC dI cI cZ cS cC cJ a v_1 H.size p1 p0 p2 hD gn (by omega) hB.self ix_3 (by omega) ex_3 iy_3 (by omega) ey_3) (cwV 3 hts (gV (fun w h => List.mem_cons_of_mem _ h) kw_t4_36 kw_t4_38 kw_s0_25 kw_t1_7 kw_t4_39) rfl rfl rfl (by decide +kernel) ⟨Nat.le_of_ble_eq_true rfl, Nat.le_of_ble_eq_true rfl⟩) ⟨fun av U g mk q => by obtain ⟨q0, q1, qP, qK, qN⟩ := q; exact ⟨q0, q1, qP, va_K.moved (u := U) (U := U.calling g mk av) (Vm.Alike.refl U.vm) qK, mN_same qN⟩, va_recv hK hP (ci := 6) (q0 := 45) rfl at_45, fun U hU hW => ⟨rfl, by rw [hU], by rw [hU]; exact hP, va_K.moved hW.alike hK, mN_warm hW hN⟩⟩ rfl rfl hl.1 rfl (lv_room (Nat.le_of_ble_eq_true rfl)) dX6_good_24 ⟨Nat.le_of_ble_eq_true rfl, Nat.le_of_ble_eq_true rfl⟩) hS (fun q _ h => hFc q h) hFc (fun r_7 _ t H locs ht hvm hw_7 hP _ _ hS => ?_)
      have hP := kt_heap2 ht hP
      clear ht hFc
      have hP : va_P (dC, dI) vwCl (mW cI cZ cS cC cJ a v_1) H := hP
      refine lv_if_eq (tgt := 34) hx hb dX6_good_27 (by decide) (fun c_8 => ?_) (fun c_8 => ?_)
      · refine lv_iconst (v := 0) hx hb dX6_good_34 (by decide) ?_
        exact W.iret (v := 0) hx hb hr (fun t ht hW => ⟨⟨0, v_1, rfl, ⟨hB, hL⟩, kt_heap ht hP⟩, hS.F ht⟩) hS.2.2 dX6_good_35
      · refine lv_iconst (v := 1) hx hb dX6_good_30 (by decide) ?_
        refine lv_goto (tgt := 35) hx hb dX6_good_31 (by decide) ?_
        exact W.iret (v := 1) hx hb hr (fun t ht hW => ⟨⟨1, v_1, rfl, ⟨hB, hL⟩, kt_heap ht hP⟩, hS.F ht⟩) hS.2.2 dX6_good_35

set_option maxHeartbeats 4000000 in
set_option maxRecDepth 100000 in
theorem c_X6_turned (l : Launch) (dC : Nat → ClassId) (dI : Nat → Nat → Nat) (cI cZ cS cC cJ : ClassId) (a : Nat → Nat) (v : Nat → Nat → Int32) (sz : Nat) (p0 p1 : Int32) (hD : mDD a) (gn : Nat) (hn : gn < 200000) (hB : rB gn v v) (hL : rL v) : Met l yX6_turned (Cond.code yX6_turned cX6_turned 3 (some .int) :: WW) ({ frames := 1, cells := 0, slots := 0, locals := 30 }) (va_Pc [.ref (a 45), .int p0, .int p1] (fun U => U.heap.size = sz ∧ va_P (dC, dI) vwCl (mW cI cZ cS cC cJ a v) U.heap ∧ va_K (dC, dI) vwCl [(cI, .int), (cZ, .boolean), (cS, .object RX3), (cC, .object RX0), (cJ, .long)] U ∧ mN U)) (va_Qi (fun (r : Int32) (u : Nat → Nat → Int32) => (rB gn v u) ∧ (rL u)) (fun (u : Nat → Nat → Int32) (t : State) => va_P (dC, dI) vwCl (mW cI cZ cS cC cJ a u) t.heap) (mA a sz)) 0 0 (mA a sz) := by
  refine Met.ofW (cc := cX6_turned) (maxL := 3) (ret := (some .int)) (by decide) rfl ?_
  intro p e s m args below meth c s₁ B hml hv
  obtain ⟨rfl, hsz, hP, hK, hN⟩ := hv
  have hx := B.exec
  have hb := B.bytes
  have hr := B.returns
  have hts := atoms_spec (ws := Cond.code yX6_turned cX6_turned 3 (some .int) :: WW) B.pre
  have hown : s.vm.findClass RX6 = some m.cls := findClass_of_methodNamed B.named
  have hlocks := B.notSynchronized
  subst hsz
  have hAc : ∀ c, c < 81 → mA a s.heap.size (a c) := fun c h => Or.inl ⟨c, h, rfl⟩
  have hA : ∀ q : Nat, s.heap.size ≤ q → mA a s.heap.size q := fun q h => Or.inr h
  generalize hAe : mA a s.heap.size = A at hAc hA ⊢
  have hS : va_S A s.heap s.heap [] := va_S.rf
  have hl := lv_entry ([.ref (a 45), .int p0, .int p1]) (n := 3) (Nat.le_of_ble_eq_true rfl)
  rw [lg_entry_eq]
  generalize (lg_sl ([.ref (a 45), .int p0, .int p1]) ++ List.replicate (3 - (lg_sl ([.ref (a 45), .int p0, .int p1])).length) Slot.unset).toArray = ls at hl ⊢
  have hl : lv_has ls 3 [(0, .ref (a 45)), (1, .int p0), (2, .int p1)] := hl
  refine lv_aload_n hx hb dX6_turned_0 rfl (lv_at hl 0 rfl) ?_
  refine lv_iload_n hx hb dX6_turned_1 rfl (lv_at hl 1 rfl) ?_
  refine lv_if_lt (tgt := 29) hx hb dX6_turned_2 (by decide) (fun c_1 => ?_) (fun c_1 => ?_)
  · refine lv_iconst (v := 1) hx hb dX6_turned_29 (by decide) ?_
    refine lv_goto (tgt := 34) hx hb dX6_turned_30 (by decide) ?_
    refine va_put (D := (dC, dI)) (ci := 6) (v := .int 1) (ty := .int) (C := RX6) (T := TX6) (N := 43) hx hb hts (fun w h => List.mem_cons_of_mem _ (inWX6 w h)) tyX6 tyX6_ok nmX6 hown hK hP (mD_of hD hAc) hS 45 at_45 rfl 0 (by decide) (hts _ (List.mem_cons_of_mem _ kw_t3_41)) (fun _ h9 => h9) rfl (by decide +kernel) rfl rfl (Nat.le_of_ble_eq_true rfl) dX6_turned_34 (fun H locs hP _ hS => ?_)
    obtain ⟨v_2, ev_2⟩ : ∃ z, z = mU v 45 (upd (v 45) 0 1) := ⟨_, rfl⟩
    have hP : va_P (dC, dI) vwCl (mW cI cZ cS cC cJ a v_2) H := by rw [ev_2]; exact mW_put hP (by omega) rfl
    have hB := hB.putO ev_2 (by decide)
    have hL := hL.putM ev_2 (by decide)
    refine lv_aload_n hx hb dX6_turned_37 rfl (lv_at hl 0 rfl) ?_
    refine va_get (D := (dC, dI)) (ci := 6) (v := .int (v_2 45 0)) (C := RX6) (T := TX6) (N := 43) hx hb hts (fun w h => List.mem_cons_of_mem _ (inWX6 w h)) hown hK hP 45 at_45 rfl 0 (by decide) (hts _ (List.mem_cons_of_mem _ kw_t3_41)) (fun _ h9 => h9) rfl dX6_turned_38 ?_
    refine lv_topi (fun t_3 et_3 => ?_)
    obtain rfl : t_3 = 1 := et_3.trans (by rw [ev_2]; rfl)
    refine lv_if_le (tgt := 46) hx hb dX6_turned_41 (by decide) (fun c_4 => absurd c_4 (by decide)) (fun c_4 => ?_)
    refine lv_iconst (v := 0) hx hb dX6_turned_44 (by decide) ?_
    exact W.iret (v := 0) hx hb hr (fun t ht hW => ⟨⟨0, v_2, rfl, ⟨hB, hL⟩, kt_heap ht hP⟩, hS.F ht⟩) hS.2.2 dX6_turned_45
  · refine lv_iload_n hx hb dX6_turned_5 rfl (lv_at hl 1 rfl) ?_
    refine lv_aload_n hx hb dX6_turned_6 rfl (lv_at hl 0 rfl) ?_
    refine va_get (D := (dC, dI)) (ci := 6) (v := .int (v 45 4)) (C := RX6) (T := TX6) (N := 43) hx hb hts (fun w h => List.mem_cons_of_mem _ (inWX6 w h)) hown hK hP 45 at_45 rfl 4 (by decide) (hts _ (List.mem_cons_of_mem _ kw_t3_45)) (fun _ h9 => h9) rfl dX6_turned_7 ?_
    refine lv_topi (fun t_5 et_5 => ?_)
    have hsc_5 : 0 ≤ t_5.toInt ∧ t_5.toInt ≤ gn := by rw [et_5]; exact hB.tn
    refine lv_icmp_ge (tgt := 29) hx hb dX6_turned_10 (by decide) (fun c_6 => ?_) (fun c_6 => ?_)
    · refine lv_iconst (v := 1) hx hb dX6_turned_29 (by decide) ?_
      refine lv_goto (tgt := 34) hx hb dX6_turned_30 (by decide) ?_
      refine va_put (D := (dC, dI)) (ci := 6) (v := .int 1) (ty := .int) (C := RX6) (T := TX6) (N := 43) hx hb hts (fun w h => List.mem_cons_of_mem _ (inWX6 w h)) tyX6 tyX6_ok nmX6 hown hK hP (mD_of hD hAc) hS 45 at_45 rfl 0 (by decide) (hts _ (List.mem_cons_of_mem _ kw_t3_41)) (fun _ h9 => h9) rfl (by decide +kernel) rfl rfl (Nat.le_of_ble_eq_true rfl) dX6_turned_34 (fun H locs hP _ hS => ?_)
      obtain ⟨v_7, ev_7⟩ : ∃ z, z = mU v 45 (upd (v 45) 0 1) := ⟨_, rfl⟩
      have hP : va_P (dC, dI) vwCl (mW cI cZ cS cC cJ a v_7) H := by rw [ev_7]; exact mW_put hP (by omega) rfl
      have hB := hB.putO ev_7 (by decide)
      have hL := hL.putM ev_7 (by decide)
      refine lv_aload_n hx hb dX6_turned_37 rfl (lv_at hl 0 rfl) ?_
      refine va_get (D := (dC, dI)) (ci := 6) (v := .int (v_7 45 0)) (C := RX6) (T := TX6) (N := 43) hx hb hts (fun w h => List.mem_cons_of_mem _ (inWX6 w h)) hown hK hP 45 at_45 rfl 0 (by decide) (hts _ (List.mem_cons_of_mem _ kw_t3_41)) (fun _ h9 => h9) rfl dX6_turned_38 ?_
      refine lv_topi (fun t_8 et_8 => ?_)
      obtain rfl : t_8 = 1 := et_8.trans (by rw [ev_7]; rfl)
      refine lv_if_le (tgt := 46) hx hb dX6_turned_41 (by decide) (fun c_9 => absurd c_9 (by decide)) (fun c_9 => ?_)
      refine lv_iconst (v := 0) hx hb dX6_turned_44 (by decide) ?_
      exact W.iret (v := 0) hx hb hr (fun t ht hW => ⟨⟨0, v_7, rfl, ⟨hB, hL⟩, kt_heap ht hP⟩, hS.F ht⟩) hS.2.2 dX6_turned_45
    · refine lv_iload_n hx hb dX6_turned_13 rfl (lv_at hl 1 rfl) ?_
      refine lv_sipush (v := 500) hx hb dX6_turned_14 (by decide) ?_
      refine lv_icmp_ge (tgt := 29) hx hb dX6_turned_17 (by decide) (fun c_10 => ?_) (fun c_10 => ?_)
      · refine lv_iconst (v := 1) hx hb dX6_turned_29 (by decide) ?_
        refine lv_goto (tgt := 34) hx hb dX6_turned_30 (by decide) ?_
        refine va_put (D := (dC, dI)) (ci := 6) (v := .int 1) (ty := .int) (C := RX6) (T := TX6) (N := 43) hx hb hts (fun w h => List.mem_cons_of_mem _ (inWX6 w h)) tyX6 tyX6_ok nmX6 hown hK hP (mD_of hD hAc) hS 45 at_45 rfl 0 (by decide) (hts _ (List.mem_cons_of_mem _ kw_t3_41)) (fun _ h9 => h9) rfl (by decide +kernel) rfl rfl (Nat.le_of_ble_eq_true rfl) dX6_turned_34 (fun H locs hP _ hS => ?_)
        obtain ⟨v_11, ev_11⟩ : ∃ z, z = mU v 45 (upd (v 45) 0 1) := ⟨_, rfl⟩
        have hP : va_P (dC, dI) vwCl (mW cI cZ cS cC cJ a v_11) H := by rw [ev_11]; exact mW_put hP (by omega) rfl
        have hB := hB.putO ev_11 (by decide)
        have hL := hL.putM ev_11 (by decide)
        refine lv_aload_n hx hb dX6_turned_37 rfl (lv_at hl 0 rfl) ?_
        refine va_get (D := (dC, dI)) (ci := 6) (v := .int (v_11 45 0)) (C := RX6) (T := TX6) (N := 43) hx hb hts (fun w h => List.mem_cons_of_mem _ (inWX6 w h)) hown hK hP 45 at_45 rfl 0 (by decide) (hts _ (List.mem_cons_of_mem _ kw_t3_41)) (fun _ h9 => h9) rfl dX6_turned_38 ?_
        refine lv_topi (fun t_12 et_12 => ?_)
        obtain rfl : t_12 = 1 := et_12.trans (by rw [ev_11]; rfl)
        refine lv_if_le (tgt := 46) hx hb dX6_turned_41 (by decide) (fun c_13 => absurd c_13 (by decide)) (fun c_13 => ?_)
        refine lv_iconst (v := 0) hx hb dX6_turned_44 (by decide) ?_
        exact W.iret (v := 0) hx hb hr (fun t ht hW => ⟨⟨0, v_11, rfl, ⟨hB, hL⟩, kt_heap ht hP⟩, hS.F ht⟩) hS.2.2 dX6_turned_45
      · refine lv_iload_n hx hb dX6_turned_20 rfl (lv_at hl 2 rfl) ?_
        refine lv_iconst (v := 0) hx hb dX6_turned_21 (by decide) ?_
        refine lv_iconst (v := 4) hx hb dX6_turned_22 (by decide) ?_
        have hFc := mA_free (a := a) hS hA hAc
        refine va_calli (va_runS (As := [.int p1, .int 0, .int 4]) (rest := [.ref (a 45)]) ⟨hx, hb, hml, hown, hts⟩ (c_X6_isIn l dC dI cI cZ cS cC cJ a v s.heap.size p1 0 4 hD gn (by omega) hB.self) (va_cwS 3 hts (gS (fun w h => List.mem_cons_of_mem _ h) kw_t3_176 kw_t3_177 kw_t1_7 kw_t3_178) rfl rfl rfl (by decide +kernel) ⟨Nat.le_of_ble_eq_true rfl, Nat.le_of_ble_eq_true rfl⟩) ⟨fun av U g mk q => by obtain ⟨q0, q1, qP, qK, qN⟩ := q; exact ⟨q0, q1, qP, va_K.moved (u := U) (U := U.calling g mk av) (Vm.Alike.refl U.vm) qK, mN_same qN⟩, fun U hU hW => ⟨rfl, by rw [hU], by rw [hU]; exact hP, va_K.moved hW.alike hK, mN_warm hW hN⟩⟩ rfl rfl hl.1 rfl (lv_room (Nat.le_of_ble_eq_true rfl)) dX6_turned_23 ⟨Nat.le_of_ble_eq_true rfl, Nat.le_of_ble_eq_true rfl⟩) hS (fun q _ h => hFc q h) hFc (fun r_14 _ t H locs ht hvm hw_14 hP _ _ hS => ?_)
        have hP := kt_heap2 ht hP
        clear ht hFc
        have hP : va_P (dC, dI) vwCl (mW cI cZ cS cC cJ a v) H := hP
        rcases hw_14 with ⟨hz_15, c_15a, c_15b⟩ | ⟨hz_15, c_15d⟩
        · subst hz_15
          refine lv_if_ne (tgt := 33) hx hb dX6_turned_26 (by decide) (fun c_16 => ?_) (fun c_16 => absurd c_16 (by decide))
          refine lv_iconst (v := 0) hx hb dX6_turned_33 (by decide) ?_
          refine va_put (D := (dC, dI)) (ci := 6) (v := .int 0) (ty := .int) (C := RX6) (T := TX6) (N := 43) hx hb hts (fun w h => List.mem_cons_of_mem _ (inWX6 w h)) tyX6 tyX6_ok nmX6 hown hK hP (mD_of hD hAc) hS 45 at_45 rfl 0 (by decide) (hts _ (List.mem_cons_of_mem _ kw_t3_41)) (fun _ h9 => h9) rfl (by decide +kernel) rfl rfl (Nat.le_of_ble_eq_true rfl) dX6_turned_34 (fun H locs hP _ hS => ?_)
          obtain ⟨v_17, ev_17⟩ : ∃ z, z = mU v 45 (upd (v 45) 0 0) := ⟨_, rfl⟩
          have hP : va_P (dC, dI) vwCl (mW cI cZ cS cC cJ a v_17) H := by rw [ev_17]; exact mW_put hP (by omega) rfl
          have hB := hB.putO ev_17 (by decide)
          have hL := hL.putM ev_17 (by decide)
          refine lv_aload_n hx hb dX6_turned_37 rfl (lv_at hl 0 rfl) ?_
          refine va_get (D := (dC, dI)) (ci := 6) (v := .int (v_17 45 0)) (C := RX6) (T := TX6) (N := 43) hx hb hts (fun w h => List.mem_cons_of_mem _ (inWX6 w h)) hown hK hP 45 at_45 rfl 0 (by decide) (hts _ (List.mem_cons_of_mem _ kw_t3_41)) (fun _ h9 => h9) rfl dX6_turned_38 ?_
          refine lv_topi (fun t_18 et_18 => ?_)
          obtain rfl : t_18 = 0 := et_18.trans (by rw [ev_17]; rfl)
          refine lv_if_le (tgt := 46) hx hb dX6_turned_41 (by decide) (fun c_19 => ?_) (fun c_19 => absurd (by decide) c_19)
          refine lv_iload_n hx hb dX6_turned_46 rfl (lv_at hl 2 rfl) ?_
          rcases kt_sw_0_3 p1 with g_20 | g_20 | g_20 | g_20 | g_20
          · refine lv_tableIn (off := 29) (tgt := 76) hx hb dX6_turned_47 (by rw [g_20]; decide) (by rw [g_20]; decide) (by rw [g_20]; decide) (by decide) ?_
            refine lv_aload_n hx hb dX6_turned_76 rfl (lv_at hl 0 rfl) ?_
            refine va_get (D := (dC, dI)) (ci := 6) (v := .ref (a 73)) (C := RX6) (T := TX6) (N := 43) hx hb hts (fun w h => List.mem_cons_of_mem _ (inWX6 w h)) hown hK hP 45 at_45 rfl 36 (by decide) (hts _ (List.mem_cons_of_mem _ kw_t3_77)) (fun _ h9 => h9) rfl dX6_turned_77 ?_
            refine lv_iload_n hx hb dX6_turned_80 rfl (lv_at hl 1 rfl) ?_
            obtain ⟨ix_22, hx_22, ex_22⟩ := kt_idx (x := p0) (n := 500) (by have z0 := c_1; have z1 := hsc_5; have z2 := c_6; have z3 := c_10; have z4 := c_15a; have z5 := c_15b; (try simp only [Int32.lt_iff_toInt_lt, Int32.le_iff_toInt_le, ← Int32.toInt_inj, L0, L1, L2, L3, L4, L6, L9, L500, L5, L7, L10, L12, L15, L16, L20, L63, L1000, L1023, L2000, L10000, L100000, Lm1] at z0 z1 z2 z3 z4 z5); omega) (by have z0 := c_1; have z1 := hsc_5; have z2 := c_6; have z3 := c_10; have z4 := c_15a; have z5 := c_15b; (try simp only [Int32.lt_iff_toInt_lt, Int32.le_iff_toInt_le, ← Int32.toInt_inj, L0, L1, L2, L3, L4, L6, L9, L500, L5, L7, L10, L12, L15, L16, L20, L63, L1000, L1023, L2000, L10000, L100000, Lm1] at z0 z1 z2 z3 z4 z5); omega)
            refine va_iald hx hb hK hP 73 0 at_73 rfl (kt_inN ex_22 (by omega) (by decide)) dX6_turned_81 ?_
            refine lv_topi (fun t_23 et_23 => ?_)
            rw [ex_22, nI_clamp (by omega)] at et_23
            exact W.iret (v := t_23) hx hb hr (fun t ht hW => ⟨⟨t_23, v_17, rfl, ⟨hB, hL⟩, kt_heap ht hP⟩, hS.F ht⟩) hS.2.2 dX6_turned_82
          · refine lv_tableIn (off := 36) (tgt := 83) hx hb dX6_turned_47 (by rw [g_20]; decide) (by rw [g_20]; decide) (by rw [g_20]; decide) (by decide) ?_
            refine lv_aload_n hx hb dX6_turned_83 rfl (lv_at hl 0 rfl) ?_
            refine va_get (D := (dC, dI)) (ci := 6) (v := .ref (a 74)) (C := RX6) (T := TX6) (N := 43) hx hb hts (fun w h => List.mem_cons_of_mem _ (inWX6 w h)) hown hK hP 45 at_45 rfl 37 (by decide) (hts _ (List.mem_cons_of_mem _ kw_t3_78)) (fun _ h9 => h9) rfl dX6_turned_84 ?_
            refine lv_iload_n hx hb dX6_turned_87 rfl (lv_at hl 1 rfl) ?_
            obtain ⟨ix_25, hx_25, ex_25⟩ := kt_idx (x := p0) (n := 500) (by have z0 := c_1; have z1 := hsc_5; have z2 := c_6; have z3 := c_10; have z4 := c_15a; have z5 := c_15b; (try simp only [Int32.lt_iff_toInt_lt, Int32.le_iff_toInt_le, ← Int32.toInt_inj, L0, L1, L2, L3, L4, L6, L9, L500, L5, L7, L10, L12, L15, L16, L20, L63, L1000, L1023, L2000, L10000, L100000, Lm1] at z0 z1 z2 z3 z4 z5); omega) (by have z0 := c_1; have z1 := hsc_5; have z2 := c_6; have z3 := c_10; have z4 := c_15a; have z5 := c_15b; (try simp only [Int32.lt_iff_toInt_lt, Int32.le_iff_toInt_le, ← Int32.toInt_inj, L0, L1, L2, L3, L4, L6, L9, L500, L5, L7, L10, L12, L15, L16, L20, L63, L1000, L1023, L2000, L10000, L100000, Lm1] at z0 z1 z2 z3 z4 z5); omega)
            refine va_iald hx hb hK hP 74 0 at_74 rfl (kt_inN ex_25 (by omega) (by decide)) dX6_turned_88 ?_
            refine lv_topi (fun t_26 et_26 => ?_)
            rw [ex_25, nI_clamp (by omega)] at et_26
            exact W.iret (v := t_26) hx hb hr (fun t ht hW => ⟨⟨t_26, v_17, rfl, ⟨hB, hL⟩, kt_heap ht hP⟩, hS.F ht⟩) hS.2.2 dX6_turned_89
          · refine lv_tableIn (off := 43) (tgt := 90) hx hb dX6_turned_47 (by rw [g_20]; decide) (by rw [g_20]; decide) (by rw [g_20]; decide) (by decide) ?_
            refine lv_aload_n hx hb dX6_turned_90 rfl (lv_at hl 0 rfl) ?_
            refine va_get (D := (dC, dI)) (ci := 6) (v := .ref (a 75)) (C := RX6) (T := TX6) (N := 43) hx hb hts (fun w h => List.mem_cons_of_mem _ (inWX6 w h)) hown hK hP 45 at_45 rfl 38 (by decide) (hts _ (List.mem_cons_of_mem _ kw_t3_79)) (fun _ h9 => h9) rfl dX6_turned_91 ?_
            refine lv_iload_n hx hb dX6_turned_94 rfl (lv_at hl 1 rfl) ?_
            obtain ⟨ix_28, hx_28, ex_28⟩ := kt_idx (x := p0) (n := 500) (by have z0 := c_1; have z1 := hsc_5; have z2 := c_6; have z3 := c_10; have z4 := c_15a; have z5 := c_15b; (try simp only [Int32.lt_iff_toInt_lt, Int32.le_iff_toInt_le, ← Int32.toInt_inj, L0, L1, L2, L3, L4, L6, L9, L500, L5, L7, L10, L12, L15, L16, L20, L63, L1000, L1023, L2000, L10000, L100000, Lm1] at z0 z1 z2 z3 z4 z5); omega) (by have z0 := c_1; have z1 := hsc_5; have z2 := c_6; have z3 := c_10; have z4 := c_15a; have z5 := c_15b; (try simp only [Int32.lt_iff_toInt_lt, Int32.le_iff_toInt_le, ← Int32.toInt_inj, L0, L1, L2, L3, L4, L6, L9, L500, L5, L7, L10, L12, L15, L16, L20, L63, L1000, L1023, L2000, L10000, L100000, Lm1] at z0 z1 z2 z3 z4 z5); omega)
            refine va_iald hx hb hK hP 75 0 at_75 rfl (kt_inN ex_28 (by omega) (by decide)) dX6_turned_95 ?_
            refine lv_topi (fun t_29 et_29 => ?_)
            rw [ex_28, nI_clamp (by omega)] at et_29
            exact W.iret (v := t_29) hx hb hr (fun t ht hW => ⟨⟨t_29, v_17, rfl, ⟨hB, hL⟩, kt_heap ht hP⟩, hS.F ht⟩) hS.2.2 dX6_turned_96
          · refine lv_tableIn (off := 50) (tgt := 97) hx hb dX6_turned_47 (by rw [g_20]; decide) (by rw [g_20]; decide) (by rw [g_20]; decide) (by decide) ?_
            refine lv_aload_n hx hb dX6_turned_97 rfl (lv_at hl 0 rfl) ?_
            refine va_get (D := (dC, dI)) (ci := 6) (v := .ref (a 76)) (C := RX6) (T := TX6) (N := 43) hx hb hts (fun w h => List.mem_cons_of_mem _ (inWX6 w h)) hown hK hP 45 at_45 rfl 39 (by decide) (hts _ (List.mem_cons_of_mem _ kw_t3_80)) (fun _ h9 => h9) rfl dX6_turned_98 ?_
            refine lv_iload_n hx hb dX6_turned_101 rfl (lv_at hl 1 rfl) ?_
            obtain ⟨ix_31, hx_31, ex_31⟩ := kt_idx (x := p0) (n := 500) (by have z0 := c_1; have z1 := hsc_5; have z2 := c_6; have z3 := c_10; have z4 := c_15a; have z5 := c_15b; (try simp only [Int32.lt_iff_toInt_lt, Int32.le_iff_toInt_le, ← Int32.toInt_inj, L0, L1, L2, L3, L4, L6, L9, L500, L5, L7, L10, L12, L15, L16, L20, L63, L1000, L1023, L2000, L10000, L100000, Lm1] at z0 z1 z2 z3 z4 z5); omega) (by have z0 := c_1; have z1 := hsc_5; have z2 := c_6; have z3 := c_10; have z4 := c_15a; have z5 := c_15b; (try simp only [Int32.lt_iff_toInt_lt, Int32.le_iff_toInt_le, ← Int32.toInt_inj, L0, L1, L2, L3, L4, L6, L9, L500, L5, L7, L10, L12, L15, L16, L20, L63, L1000, L1023, L2000, L10000, L100000, Lm1] at z0 z1 z2 z3 z4 z5); omega)
            refine va_iald hx hb hK hP 76 0 at_76 rfl (kt_inN ex_31 (by omega) (by decide)) dX6_turned_102 ?_
            refine lv_topi (fun t_32 et_32 => ?_)
            rw [ex_31, nI_clamp (by omega)] at et_32
            exact W.iret (v := t_32) hx hb hr (fun t ht hW => ⟨⟨t_32, v_17, rfl, ⟨hB, hL⟩, kt_heap ht hP⟩, hS.F ht⟩) hS.2.2 dX6_turned_103
          · refine lv_tableOut (tgt := 104) hx hb dX6_turned_47 g_20 (by decide) ?_
            refine lv_aload_n hx hb dX6_turned_104 rfl (lv_at hl 0 rfl) ?_
            refine va_get (D := (dC, dI)) (ci := 6) (v := .ref (a 77)) (C := RX6) (T := TX6) (N := 43) hx hb hts (fun w h => List.mem_cons_of_mem _ (inWX6 w h)) hown hK hP 45 at_45 rfl 40 (by decide) (hts _ (List.mem_cons_of_mem _ kw_t3_81)) (fun _ h9 => h9) rfl dX6_turned_105 ?_
            refine lv_iload_n hx hb dX6_turned_108 rfl (lv_at hl 1 rfl) ?_
            obtain ⟨ix_34, hx_34, ex_34⟩ := kt_idx (x := p0) (n := 500) (by have z0 := c_1; have z1 := hsc_5; have z2 := c_6; have z3 := c_10; have z4 := c_15a; have z5 := c_15b; (try simp only [Int32.lt_iff_toInt_lt, Int32.le_iff_toInt_le, ← Int32.toInt_inj, L0, L1, L2, L3, L4, L6, L9, L500, L5, L7, L10, L12, L15, L16, L20, L63, L1000, L1023, L2000, L10000, L100000, Lm1] at z0 z1 z2 z3 z4 z5); omega) (by have z0 := c_1; have z1 := hsc_5; have z2 := c_6; have z3 := c_10; have z4 := c_15a; have z5 := c_15b; (try simp only [Int32.lt_iff_toInt_lt, Int32.le_iff_toInt_le, ← Int32.toInt_inj, L0, L1, L2, L3, L4, L6, L9, L500, L5, L7, L10, L12, L15, L16, L20, L63, L1000, L1023, L2000, L10000, L100000, Lm1] at z0 z1 z2 z3 z4 z5); omega)
            refine va_zald hx hb hK hP 77 1 at_77 rfl (kt_inN ex_34 (by omega) (by decide)) dX6_turned_109 ?_
            refine lv_topi (fun t_35 et_35 => ?_)
            rw [ex_34, nI_clamp (by omega)] at et_35
            refine lv_if_eq (tgt := 117) hx hb dX6_turned_110 (by decide) (fun c_36 => ?_) (fun c_36 => ?_)
            · refine lv_iconst (v := 0) hx hb dX6_turned_117 (by decide) ?_
              exact W.iret (v := 0) hx hb hr (fun t ht hW => ⟨⟨0, v_17, rfl, ⟨hB, hL⟩, kt_heap ht hP⟩, hS.F ht⟩) hS.2.2 dX6_turned_118
            · refine lv_iconst (v := 1) hx hb dX6_turned_113 (by decide) ?_
              refine lv_goto (tgt := 118) hx hb dX6_turned_114 (by decide) ?_
              exact W.iret (v := 1) hx hb hr (fun t ht hW => ⟨⟨1, v_17, rfl, ⟨hB, hL⟩, kt_heap ht hP⟩, hS.F ht⟩) hS.2.2 dX6_turned_118
        · subst hz_15
          refine lv_if_ne (tgt := 33) hx hb dX6_turned_26 (by decide) (fun c_37 => absurd (by decide) c_37) (fun c_37 => ?_)
          refine lv_iconst (v := 1) hx hb dX6_turned_29 (by decide) ?_
          refine lv_goto (tgt := 34) hx hb dX6_turned_30 (by decide) ?_
          refine va_put (D := (dC, dI)) (ci := 6) (v := .int 1) (ty := .int) (C := RX6) (T := TX6) (N := 43) hx hb hts (fun w h => List.mem_cons_of_mem _ (inWX6 w h)) tyX6 tyX6_ok nmX6 hown hK hP (mD_of hD hAc) hS 45 at_45 rfl 0 (by decide) (hts _ (List.mem_cons_of_mem _ kw_t3_41)) (fun _ h9 => h9) rfl (by decide +kernel) rfl rfl (Nat.le_of_ble_eq_true rfl) dX6_turned_34 (fun H locs hP _ hS => ?_)
          obtain ⟨v_38, ev_38⟩ : ∃ z, z = mU v 45 (upd (v 45) 0 1) := ⟨_, rfl⟩
          have hP : va_P (dC, dI) vwCl (mW cI cZ cS cC cJ a v_38) H := by rw [ev_38]; exact mW_put hP (by omega) rfl
          have hB := hB.putO ev_38 (by decide)
          have hL := hL.putM ev_38 (by decide)
          refine lv_aload_n hx hb dX6_turned_37 rfl (lv_at hl 0 rfl) ?_
          refine va_get (D := (dC, dI)) (ci := 6) (v := .int (v_38 45 0)) (C := RX6) (T := TX6) (N := 43) hx hb hts (fun w h => List.mem_cons_of_mem _ (inWX6 w h)) hown hK hP 45 at_45 rfl 0 (by decide) (hts _ (List.mem_cons_of_mem _ kw_t3_41)) (fun _ h9 => h9) rfl dX6_turned_38 ?_
          refine lv_topi (fun t_39 et_39 => ?_)
          obtain rfl : t_39 = 1 := et_39.trans (by rw [ev_38]; rfl)
          refine lv_if_le (tgt := 46) hx hb dX6_turned_41 (by decide) (fun c_40 => absurd c_40 (by decide)) (fun c_40 => ?_)
          refine lv_iconst (v := 0) hx hb dX6_turned_44 (by decide) ?_
          exact W.iret (v := 0) hx hb hr (fun t ht hW => ⟨⟨0, v_38, rfl, ⟨hB, hL⟩, kt_heap ht hP⟩, hS.F ht⟩) hS.2.2 dX6_turned_45

set_option maxHeartbeats 4000000 in
set_option maxRecDepth 100000 in
theorem c_X6_count (l : Launch) (dC : Nat → ClassId) (dI : Nat → Nat → Nat) (cI cZ cS cC cJ : ClassId) (a : Nat → Nat) (v : Nat → Nat → Int32) (sz : Nat) (p0 : Int32) (hD : mDD a) (gn : Nat) (hn : gn < 200000) (hB : rB gn v v) (hL : rL v) : Met l yX6_count (Cond.code yX6_count cX6_count 4 (some .int) :: WW) ({ frames := 2, cells := 0, slots := 0, locals := 60 }) (va_Pc [.ref (a 45), .int p0] (fun U => U.heap.size = sz ∧ va_P (dC, dI) vwCl (mW cI cZ cS cC cJ a v) U.heap ∧ va_K (dC, dI) vwCl [(cI, .int), (cZ, .boolean), (cS, .object RX3), (cC, .object RX0), (cJ, .long)] U ∧ mN U)) (va_Qi (fun (r : Int32) (u : Nat → Nat → Int32) => (rB gn v u) ∧ (rL u)) (fun (u : Nat → Nat → Int32) (t : State) => va_P (dC, dI) vwCl (mW cI cZ cS cC cJ a u) t.heap) (mA a sz)) 0 0 (mA a sz) := by
  refine Met.ofW (cc := cX6_count) (maxL := 4) (ret := (some .int)) (by decide) rfl ?_
  intro p e s m args below meth c s₁ B hml hv
  obtain ⟨rfl, hsz, hP, hK, hN⟩ := hv
  have hx := B.exec
  have hb := B.bytes
  have hr := B.returns
  have hts := atoms_spec (ws := Cond.code yX6_count cX6_count 4 (some .int) :: WW) B.pre
  have hown : s.vm.findClass RX6 = some m.cls := findClass_of_methodNamed B.named
  have hlocks := B.notSynchronized
  subst hsz
  have hAc : ∀ c, c < 81 → mA a s.heap.size (a c) := fun c h => Or.inl ⟨c, h, rfl⟩
  have hA : ∀ q : Nat, s.heap.size ≤ q → mA a s.heap.size q := fun q h => Or.inr h
  generalize hAe : mA a s.heap.size = A at hAc hA ⊢
  have hS : va_S A s.heap s.heap [] := va_S.rf
  have hl := lv_entry ([.ref (a 45), .int p0]) (n := 4) (Nat.le_of_ble_eq_true rfl)
  rw [lg_entry_eq]
  generalize (lg_sl ([.ref (a 45), .int p0]) ++ List.replicate (4 - (lg_sl ([.ref (a 45), .int p0])).length) Slot.unset).toArray = ls at hl ⊢
  have hl : lv_has ls 4 [(0, .ref (a 45)), (1, .int p0)] := hl
  refine kt_absQ (fun Q hQ9 => ?_)
  refine lv_aload_n hx hb dX6_count_0 rfl (lv_at hl 0 rfl) ?_
  refine lv_iconst (v := 0) hx hb dX6_count_1 (by decide) ?_
  refine va_put (D := (dC, dI)) (ci := 6) (v := .int 0) (ty := .int) (C := RX6) (T := TX6) (N := 43) hx hb hts (fun w h => List.mem_cons_of_mem _ (inWX6 w h)) tyX6 tyX6_ok nmX6 hown hK hP (mD_of hD hAc) hS 45 at_45 rfl 0 (by decide) (hts _ (List.mem_cons_of_mem _ kw_t3_41)) (fun _ h9 => h9) rfl (by decide +kernel) rfl rfl (Nat.le_of_ble_eq_true rfl) dX6_count_2 (fun H locs hP _ hS => ?_)
  obtain ⟨v_1, ev_1⟩ : ∃ z, z = mU v 45 (upd (v 45) 0 0) := ⟨_, rfl⟩
  have hP : va_P (dC, dI) vwCl (mW cI cZ cS cC cJ a v_1) H := by rw [ev_1]; exact mW_put hP (by omega) rfl
  have hB := hB.putO ev_1 (by decide)
  have hL := hL.putM ev_1 (by decide)
  refine lv_iconst (v := 0) hx hb dX6_count_5 (by decide) ?_
  refine lv_istore_n (lv' := [(2, .int 0), (0, .ref (a 45)), (1, .int p0)]) hx hb dX6_count_6 rfl hl (by decide) rfl (fun ls hl => ?_)
  refine lv_iload_n hx hb dX6_count_7 rfl (lv_at hl 2 rfl) ?_
  rcases kt_sw_0_7 p0 with g_2 | g_2 | g_2 | g_2 | g_2 | g_2 | g_2 | g_2 | g_2
  · refine lv_tableIn (off := 48) (tgt := 56) hx hb dX6_count_8 (by rw [g_2]; decide) (by rw [g_2]; decide) (by rw [g_2]; decide) (by decide) ?_
    refine lv_aload_n hx hb dX6_count_56 rfl (lv_at hl 1 rfl) ?_
    refine va_get (D := (dC, dI)) (ci := 6) (v := .int (v_1 45 1)) (C := RX6) (T := TX6) (N := 43) hx hb hts (fun w h => List.mem_cons_of_mem _ (inWX6 w h)) hown hK hP 45 at_45 rfl 1 (by decide) (hts _ (List.mem_cons_of_mem _ kw_t3_42)) (fun _ h9 => h9) rfl dX6_count_57 ?_
    refine lv_topi (fun t_3 et_3 => ?_)
    rw [hQ9]
    exact W.iret (v := t_3) hx hb hr (fun t ht hW => ⟨⟨t_3, v_1, rfl, ⟨hB, hL⟩, kt_heap ht hP⟩, hS.F ht⟩) hS.2.2 dX6_count_60
  · refine lv_tableIn (off := 53) (tgt := 61) hx hb dX6_count_8 (by rw [g_2]; decide) (by rw [g_2]; decide) (by rw [g_2]; decide) (by decide) ?_
    refine lv_aload_n hx hb dX6_count_61 rfl (lv_at hl 1 rfl) ?_
    refine va_get (D := (dC, dI)) (ci := 6) (v := .int (v_1 45 2)) (C := RX6) (T := TX6) (N := 43) hx hb hts (fun w h => List.mem_cons_of_mem _ (inWX6 w h)) hown hK hP 45 at_45 rfl 2 (by decide) (hts _ (List.mem_cons_of_mem _ kw_t3_43)) (fun _ h9 => h9) rfl dX6_count_62 ?_
    refine lv_topi (fun t_4 et_4 => ?_)
    have hsc_4 : 0 ≤ t_4.toInt ∧ t_4.toInt ≤ 12 := by rw [et_4]; exact hB.sc
    rw [hQ9]
    exact W.iret (v := t_4) hx hb hr (fun t ht hW => ⟨⟨t_4, v_1, rfl, ⟨hB, hL⟩, kt_heap ht hP⟩, hS.F ht⟩) hS.2.2 dX6_count_65
  · refine lv_tableIn (off := 58) (tgt := 66) hx hb dX6_count_8 (by rw [g_2]; decide) (by rw [g_2]; decide) (by rw [g_2]; decide) (by decide) ?_
    refine lv_aload_n hx hb dX6_count_66 rfl (lv_at hl 1 rfl) ?_
    refine va_get (D := (dC, dI)) (ci := 6) (v := .int (v_1 45 4)) (C := RX6) (T := TX6) (N := 43) hx hb hts (fun w h => List.mem_cons_of_mem _ (inWX6 w h)) hown hK hP 45 at_45 rfl 4 (by decide) (hts _ (List.mem_cons_of_mem _ kw_t3_45)) (fun _ h9 => h9) rfl dX6_count_67 ?_
    refine lv_topi (fun t_5 et_5 => ?_)
    have hsc_5 : 0 ≤ t_5.toInt ∧ t_5.toInt ≤ gn := by rw [et_5]; exact hB.tn
    rw [hQ9]
    exact W.iret (v := t_5) hx hb hr (fun t ht hW => ⟨⟨t_5, v_1, rfl, ⟨hB, hL⟩, kt_heap ht hP⟩, hS.F ht⟩) hS.2.2 dX6_count_70
  · refine lv_tableIn (off := 63) (tgt := 71) hx hb dX6_count_8 (by rw [g_2]; decide) (by rw [g_2]; decide) (by rw [g_2]; decide) (by decide) ?_
    refine lv_iconst (v := 0) hx hb dX6_count_71 (by decide) ?_
    refine lv_istore_n (lv' := [(3, .int 0), (2, .int 0), (0, .ref (a 45)), (1, .int p0)]) hx hb dX6_count_72 rfl hl (by decide) rfl (fun ls hl => ?_)
    have key1 : ∀ (n i1 : Nat) (k1 : Int32) (y1_2 : Int32) (H : Heap) (locs : List Loc) (ls : Array Slot), i1 ≤ 12 → 12 - i1 < n → k1 = nI i1 → va_P (dC, dI) vwCl (mW cI cZ cS cC cJ a v_1) H → va_S A s.heap H locs → lv_has ls 4 [(3, .int k1), (2, .int y1_2), (0, .ref (a 45)), (1, .int p0)] → W p l e (headSpec (Cond.code yX6_count cX6_count 4 (some .int) :: WW) ({ frames := 2, cells := 0, slots := 0, locals := 60 })).room s m ([.ref (a 45), .int p0] : List Value).toArray below meth c H locs 0 0 Q (F0 m 73 ls []) := by
      intro n
      induction n with
      | zero => intro i k y1_2 H locs ls h1 h2; exact absurd h2 (by omega)
      | succ n ih1 =>
        intro i1 k1 y1_2 H locs ls hi1 hin1 ek1 hP hS hl
        refine lv_iload_n hx hb dX6_count_73 rfl (lv_at hl 0 rfl) ?_
        refine lv_aload_n hx hb dX6_count_74 rfl (lv_at hl 2 rfl) ?_
        refine va_get (D := (dC, dI)) (ci := 6) (v := .int (v_1 45 2)) (C := RX6) (T := TX6) (N := 43) hx hb hts (fun w h => List.mem_cons_of_mem _ (inWX6 w h)) hown hK hP 45 at_45 rfl 2 (by decide) (hts _ (List.mem_cons_of_mem _ kw_t3_43)) (fun _ h9 => h9) rfl dX6_count_75 ?_
        refine lv_topi (fun t_6 et_6 => ?_)
        have hsc_6 : 0 ≤ t_6.toInt ∧ t_6.toInt ≤ 12 := by rw [et_6]; exact hB.sc
        refine lv_icmp_ge (tgt := 104) hx hb dX6_count_78 (by decide) (fun c_7 => ?_) (fun c_7 => ?_)
        · refine lv_iload_n hx hb dX6_count_104 rfl (lv_at hl 1 rfl) ?_
          rw [hQ9]
          exact W.iret (v := y1_2) hx hb hr (fun t ht hW => ⟨⟨y1_2, v_1, rfl, ⟨hB, hL⟩, kt_heap ht hP⟩, hS.F ht⟩) hS.2.2 dX6_count_105
        · refine lv_iload_n hx hb dX6_count_81 rfl (lv_at hl 1 rfl) ?_
          refine lv_aload_n hx hb dX6_count_82 rfl (lv_at hl 2 rfl) ?_
          refine va_get (D := (dC, dI)) (ci := 6) (v := .ref (a 52)) (C := RX6) (T := TX6) (N := 43) hx hb hts (fun w h => List.mem_cons_of_mem _ (inWX6 w h)) hown hK hP 45 at_45 rfl 15 (by decide) (hts _ (List.mem_cons_of_mem _ kw_t3_56)) (fun _ h9 => h9) rfl dX6_count_83 ?_
          refine lv_iload_n hx hb dX6_count_86 rfl (lv_at hl 0 rfl) ?_
          have hi_8 : i1 < 12 := kt_lt12 hsc_6 ek1 hi1 c_7
          refine va_iald hx hb hK hP 52 0 at_52 rfl (kt_inN ek1 (by omega) (by decide)) dX6_count_87 ?_
          refine lv_topi (fun t_9 et_9 => ?_)
          rw [ek1, nI_clamp (by omega)] at et_9
          refine lv_if_eq (tgt := 95) hx hb dX6_count_88 (by decide) (fun c_10 => ?_) (fun c_10 => ?_)
          · refine lv_iconst (v := 0) hx hb dX6_count_95 (by decide) ?_
            refine lv_iadd hx hb dX6_count_96 ?_
            refine lv_topi (fun t_11 et_11 => ?_)
            refine lv_istore_n (lv' := [(2, .int t_11), (3, .int k1), (0, .ref (a 45)), (1, .int p0)]) hx hb dX6_count_97 rfl hl (by decide) rfl (fun ls hl => ?_)
            obtain ⟨t_12, et_12⟩ : ∃ y : Int32, y = k1 + 1 := ⟨_, rfl⟩
            refine lv_iinc (v := t_12) (lv' := [(3, .int t_12), (2, .int t_11), (0, .ref (a 45)), (1, .int p0)]) hx hb dX6_count_98 hl (k := 1) rfl (by rw [et_12]; rfl) (by decide) rfl (fun ls hl => ?_)
            refine lv_goto (tgt := 73) hx hb dX6_count_101 (by decide) ?_
            exact ih1 (i1 + 1) t_12 t_11 _ _ _ (by omega) (by omega) (by rw [et_12, ek1]; exact nI_1 i1) hP hS (lv_sub hl [0, 1, 2, 3] rfl)
          · refine lv_iconst (v := 1) hx hb dX6_count_91 (by decide) ?_
            refine lv_goto (tgt := 96) hx hb dX6_count_92 (by decide) ?_
            refine lv_iadd hx hb dX6_count_96 ?_
            refine lv_topi (fun t_13 et_13 => ?_)
            refine lv_istore_n (lv' := [(2, .int t_13), (3, .int k1), (0, .ref (a 45)), (1, .int p0)]) hx hb dX6_count_97 rfl hl (by decide) rfl (fun ls hl => ?_)
            obtain ⟨t_14, et_14⟩ : ∃ y : Int32, y = k1 + 1 := ⟨_, rfl⟩
            refine lv_iinc (v := t_14) (lv' := [(3, .int t_14), (2, .int t_13), (0, .ref (a 45)), (1, .int p0)]) hx hb dX6_count_98 hl (k := 1) rfl (by rw [et_14]; rfl) (by decide) rfl (fun ls hl => ?_)
            refine lv_goto (tgt := 73) hx hb dX6_count_101 (by decide) ?_
            exact ih1 (i1 + 1) t_14 t_13 _ _ _ (by omega) (by omega) (by rw [et_14, ek1]; exact nI_1 i1) hP hS (lv_sub hl [0, 1, 2, 3] rfl)
    exact key1 (12 + 1) 0 0 0 _ _ _ (Nat.zero_le _) (by omega) rfl hP hS (lv_sub hl [0, 1, 2, 3] rfl)
  · refine lv_tableIn (off := 98) (tgt := 106) hx hb dX6_count_8 (by rw [g_2]; decide) (by rw [g_2]; decide) (by rw [g_2]; decide) (by decide) ?_
    refine lv_aload_n hx hb dX6_count_106 rfl (lv_at hl 1 rfl) ?_
    refine va_get (D := (dC, dI)) (ci := 6) (v := .int (v_1 45 3)) (C := RX6) (T := TX6) (N := 43) hx hb hts (fun w h => List.mem_cons_of_mem _ (inWX6 w h)) hown hK hP 45 at_45 rfl 3 (by decide) (hts _ (List.mem_cons_of_mem _ kw_t3_44)) (fun _ h9 => h9) rfl dX6_count_107 ?_
    refine lv_topi (fun t_15 et_15 => ?_)
    have hle_15 : 0 ≤ t_15.toInt ∧ t_15.toInt ≤ 480 := by rw [et_15]; exact ⟨hL.2.1, Int.le_trans (rQ.le hL (b := 16) (fun s _ => (bd_le _).2)) (by decide)⟩
    rw [hQ9]
    exact W.iret (v := t_15) hx hb hr (fun t ht hW => ⟨⟨t_15, v_1, rfl, ⟨hB, hL⟩, kt_heap ht hP⟩, hS.F ht⟩) hS.2.2 dX6_count_110
  · refine lv_tableIn (off := 103) (tgt := 111) hx hb dX6_count_8 (by rw [g_2]; decide) (by rw [g_2]; decide) (by rw [g_2]; decide) (by decide) ?_
    refine lv_aload_n hx hb dX6_count_111 rfl (lv_at hl 1 rfl) ?_
    refine va_get (D := (dC, dI)) (ci := 6) (v := .int (v_1 45 5)) (C := RX6) (T := TX6) (N := 43) hx hb hts (fun w h => List.mem_cons_of_mem _ (inWX6 w h)) hown hK hP 45 at_45 rfl 5 (by decide) (hts _ (List.mem_cons_of_mem _ kw_t3_46)) (fun _ h9 => h9) rfl dX6_count_112 ?_
    refine lv_topi (fun t_16 et_16 => ?_)
    rw [hQ9]
    exact W.iret (v := t_16) hx hb hr (fun t ht hW => ⟨⟨t_16, v_1, rfl, ⟨hB, hL⟩, kt_heap ht hP⟩, hS.F ht⟩) hS.2.2 dX6_count_115
  · refine lv_tableIn (off := 108) (tgt := 116) hx hb dX6_count_8 (by rw [g_2]; decide) (by rw [g_2]; decide) (by rw [g_2]; decide) (by decide) ?_
    refine lv_aload_n hx hb dX6_count_116 rfl (lv_at hl 1 rfl) ?_
    refine va_get (D := (dC, dI)) (ci := 6) (v := .int (v_1 45 6)) (C := RX6) (T := TX6) (N := 43) hx hb hts (fun w h => List.mem_cons_of_mem _ (inWX6 w h)) hown hK hP 45 at_45 rfl 6 (by decide) (hts _ (List.mem_cons_of_mem _ kw_t3_47)) (fun _ h9 => h9) rfl dX6_count_117 ?_
    refine lv_topi (fun t_17 et_17 => ?_)
    rw [hQ9]
    exact W.iret (v := t_17) hx hb hr (fun t ht hW => ⟨⟨t_17, v_1, rfl, ⟨hB, hL⟩, kt_heap ht hP⟩, hS.F ht⟩) hS.2.2 dX6_count_120
  · refine lv_tableIn (off := 113) (tgt := 121) hx hb dX6_count_8 (by rw [g_2]; decide) (by rw [g_2]; decide) (by rw [g_2]; decide) (by decide) ?_
    refine lv_iconst (v := 0) hx hb dX6_count_121 (by decide) ?_
    refine lv_istore_n (lv' := [(3, .int 0), (2, .int 0), (0, .ref (a 45)), (1, .int p0)]) hx hb dX6_count_122 rfl hl (by decide) rfl (fun ls hl => ?_)
    have key2 : ∀ (n i2 : Nat) (k2 : Int32) (y2_2 : Int32) (H : Heap) (locs : List Loc) (ls : Array Slot), i2 ≤ 12 → 12 - i2 < n → k2 = nI i2 → va_P (dC, dI) vwCl (mW cI cZ cS cC cJ a v_1) H → va_S A s.heap H locs → lv_has ls 4 [(3, .int k2), (2, .int y2_2), (0, .ref (a 45)), (1, .int p0)] → W p l e (headSpec (Cond.code yX6_count cX6_count 4 (some .int) :: WW) ({ frames := 2, cells := 0, slots := 0, locals := 60 })).room s m ([.ref (a 45), .int p0] : List Value).toArray below meth c H locs 0 0 Q (F0 m 123 ls []) := by
      intro n
      induction n with
      | zero => intro i k y2_2 H locs ls h1 h2; exact absurd h2 (by omega)
      | succ n ih2 =>
        intro i2 k2 y2_2 H locs ls hi2 hin2 ek2 hP hS hl
        refine lv_iload_n hx hb dX6_count_123 rfl (lv_at hl 0 rfl) ?_
        refine lv_aload_n hx hb dX6_count_124 rfl (lv_at hl 2 rfl) ?_
        refine va_get (D := (dC, dI)) (ci := 6) (v := .int (v_1 45 2)) (C := RX6) (T := TX6) (N := 43) hx hb hts (fun w h => List.mem_cons_of_mem _ (inWX6 w h)) hown hK hP 45 at_45 rfl 2 (by decide) (hts _ (List.mem_cons_of_mem _ kw_t3_43)) (fun _ h9 => h9) rfl dX6_count_125 ?_
        refine lv_topi (fun t_18 et_18 => ?_)
        have hsc_18 : 0 ≤ t_18.toInt ∧ t_18.toInt ≤ 12 := by rw [et_18]; exact hB.sc
        refine lv_icmp_ge (tgt := 159) hx hb dX6_count_128 (by decide) (fun c_19 => ?_) (fun c_19 => ?_)
        · refine lv_iload_n hx hb dX6_count_159 rfl (lv_at hl 1 rfl) ?_
          rw [hQ9]
          exact W.iret (v := y2_2) hx hb hr (fun t ht hW => ⟨⟨y2_2, v_1, rfl, ⟨hB, hL⟩, kt_heap ht hP⟩, hS.F ht⟩) hS.2.2 dX6_count_160
        · refine lv_iload_n hx hb dX6_count_131 rfl (lv_at hl 1 rfl) ?_
          refine lv_aload_n hx hb dX6_count_132 rfl (lv_at hl 2 rfl) ?_
          refine lv_iload_n hx hb dX6_count_133 rfl (lv_at hl 0 rfl) ?_
          have hi_21 : i2 < 12 := kt_lt12 hsc_18 ek2 hi2 c_19
          have hFc := mA_free (a := a) hS hA hAc
          refine va_calli (va_runV (As := [.int k2]) (rest := [.int y2_2]) ⟨hx, hb, hml, hown, hts⟩ (c_X6_age l dC dI cI cZ cS cC cJ a v_1 H.size k2 hD gn (by omega) hB.self i2 (by omega) ek2) (cwV 1 hts (gV (fun w h => List.mem_cons_of_mem _ h) kw_t4_48 kw_t4_50 kw_s0_26 kw_t1_7 kw_t4_51) rfl rfl rfl (by decide +kernel) ⟨Nat.le_of_ble_eq_true rfl, Nat.le_of_ble_eq_true rfl⟩) ⟨fun av U g mk q => by obtain ⟨q0, q1, qP, qK, qN⟩ := q; exact ⟨q0, q1, qP, va_K.moved (u := U) (U := U.calling g mk av) (Vm.Alike.refl U.vm) qK, mN_same qN⟩, va_recv hK hP (ci := 6) (q0 := 45) rfl at_45, fun U hU hW => ⟨rfl, by rw [hU], by rw [hU]; exact hP, va_K.moved hW.alike hK, mN_warm hW hN⟩⟩ rfl rfl hl.1 rfl (lv_room (Nat.le_of_ble_eq_true rfl)) dX6_count_134 ⟨Nat.le_of_ble_eq_true rfl, Nat.le_of_ble_eq_true rfl⟩) hS (fun q _ h => hFc q h) hFc (fun r_20 _ t H locs ht hvm hw_20 hP _ _ hS => ?_)
          have hP := kt_heap2 ht hP
          clear ht hFc
          have hP : va_P (dC, dI) vwCl (mW cI cZ cS cC cJ a v_1) H := hP
          refine lv_aload_n hx hb dX6_count_137 rfl (lv_at hl 2 rfl) ?_
          refine va_get (D := (dC, dI)) (ci := 6) (v := .ref (a 49)) (C := RX6) (T := TX6) (N := 43) hx hb hts (fun w h => List.mem_cons_of_mem _ (inWX6 w h)) hown hK hP 45 at_45 rfl 12 (by decide) (hts _ (List.mem_cons_of_mem _ kw_t3_53)) (fun _ h9 => h9) rfl dX6_count_138 ?_
          refine lv_iload_n hx hb dX6_count_141 rfl (lv_at hl 0 rfl) ?_
          refine va_iald hx hb hK hP 49 0 at_49 rfl (kt_inN ek2 (by omega) (by decide)) dX6_count_142 ?_
          refine lv_topi (fun t_22 et_22 => ?_)
          rw [ek2, nI_clamp (by omega)] at et_22
          refine lv_icmp_le (tgt := 150) hx hb dX6_count_143 (by decide) (fun c_23 => ?_) (fun c_23 => ?_)
          · refine lv_iconst (v := 0) hx hb dX6_count_150 (by decide) ?_
            refine lv_iadd hx hb dX6_count_151 ?_
            refine lv_topi (fun t_24 et_24 => ?_)
            refine lv_istore_n (lv' := [(2, .int t_24), (3, .int k2), (0, .ref (a 45)), (1, .int p0)]) hx hb dX6_count_152 rfl hl (by decide) rfl (fun ls hl => ?_)
            obtain ⟨t_25, et_25⟩ : ∃ y : Int32, y = k2 + 1 := ⟨_, rfl⟩
            refine lv_iinc (v := t_25) (lv' := [(3, .int t_25), (2, .int t_24), (0, .ref (a 45)), (1, .int p0)]) hx hb dX6_count_153 hl (k := 1) rfl (by rw [et_25]; rfl) (by decide) rfl (fun ls hl => ?_)
            refine lv_goto (tgt := 123) hx hb dX6_count_156 (by decide) ?_
            exact ih2 (i2 + 1) t_25 t_24 _ _ _ (by omega) (by omega) (by rw [et_25, ek2]; exact nI_1 i2) hP hS (lv_sub hl [0, 1, 2, 3] rfl)
          · refine lv_iconst (v := 1) hx hb dX6_count_146 (by decide) ?_
            refine lv_goto (tgt := 151) hx hb dX6_count_147 (by decide) ?_
            refine lv_iadd hx hb dX6_count_151 ?_
            refine lv_topi (fun t_26 et_26 => ?_)
            refine lv_istore_n (lv' := [(2, .int t_26), (3, .int k2), (0, .ref (a 45)), (1, .int p0)]) hx hb dX6_count_152 rfl hl (by decide) rfl (fun ls hl => ?_)
            obtain ⟨t_27, et_27⟩ : ∃ y : Int32, y = k2 + 1 := ⟨_, rfl⟩
            refine lv_iinc (v := t_27) (lv' := [(3, .int t_27), (2, .int t_26), (0, .ref (a 45)), (1, .int p0)]) hx hb dX6_count_153 hl (k := 1) rfl (by rw [et_27]; rfl) (by decide) rfl (fun ls hl => ?_)
            refine lv_goto (tgt := 123) hx hb dX6_count_156 (by decide) ?_
            exact ih2 (i2 + 1) t_27 t_26 _ _ _ (by omega) (by omega) (by rw [et_27, ek2]; exact nI_1 i2) hP hS (lv_sub hl [0, 1, 2, 3] rfl)
    exact key2 (12 + 1) 0 0 0 _ _ _ (Nat.zero_le _) (by omega) rfl hP hS (lv_sub hl [0, 1, 2, 3] rfl)
  · refine lv_tableOut (tgt := 161) hx hb dX6_count_8 g_2 (by decide) ?_
    refine lv_iconst (v := (-1)) hx hb dX6_count_161 (by decide) ?_
    rw [hQ9]
    exact W.iret (v := (-1)) hx hb hr (fun t ht hW => ⟨⟨(-1), v_1, rfl, ⟨hB, hL⟩, kt_heap ht hP⟩, hS.F ht⟩) hS.2.2 dX6_count_162
