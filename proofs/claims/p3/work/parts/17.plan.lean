set_option maxHeartbeats 4000000 in
set_option maxRecDepth 100000 in
theorem c_X5_nextOfPlan (l : Launch) (dC : Nat → ClassId) (dI : Nat → Nat → Nat) (cI cZ cS cC cJ : ClassId) (a : Nat → Nat) (v : Nat → Nat → Int32) (sz : Nat) (p0 : Int32) (hD : mDD a) (hI : kI v v) : Met l yX5_nextOfPlan (Cond.code yX5_nextOfPlan cX5_nextOfPlan 5 (some .int) :: WW) ({ frames := 2, cells := 0, slots := 0, locals := 60 }) (va_Pc [.ref (a 0), .int p0] (fun U => U.heap.size = sz ∧ va_P (dC, dI) vwCl (mW cI cZ cS cC cJ a v) U.heap ∧ va_K (dC, dI) vwCl [(cI, .int), (cZ, .boolean), (cS, .object RX3), (cC, .object RX0), (cJ, .long)] U ∧ mN U)) (va_Qi (fun (r : Int32) (_u : Unit) => True) (fun (_ : Unit) (t : State) => va_P (dC, dI) vwCl (mW cI cZ cS cC cJ a v) t.heap) (mA a sz)) 0 0 (mA a sz) := by
  refine Met.ofW (cc := cX5_nextOfPlan) (maxL := 5) (ret := (some .int)) (by decide) rfl ?_
  intro p e s m args below meth c s₁ B hml hv
  obtain ⟨rfl, hsz, hP, hK, hN⟩ := hv
  have hx := B.exec
  have hb := B.bytes
  have hr := B.returns
  have hts := atoms_spec (ws := Cond.code yX5_nextOfPlan cX5_nextOfPlan 5 (some .int) :: WW) B.pre
  have hown : s.vm.findClass RX5 = some m.cls := findClass_of_methodNamed B.named
  have hlocks := B.notSynchronized
  subst hsz
  have hAc : ∀ c, c < 81 → mA a s.heap.size (a c) := fun c h => Or.inl ⟨c, h, rfl⟩
  have hA : ∀ q : Nat, s.heap.size ≤ q → mA a s.heap.size q := fun q h => Or.inr h
  generalize hAe : mA a s.heap.size = A at hAc hA ⊢
  have hS : va_S A s.heap s.heap [] := va_S.rf
  have hl := lv_entry ([.ref (a 0), .int p0]) (n := 5) (Nat.le_of_ble_eq_true rfl)
  rw [lg_entry_eq]
  generalize (lg_sl ([.ref (a 0), .int p0]) ++ List.replicate (5 - (lg_sl ([.ref (a 0), .int p0])).length) Slot.unset).toArray = ls at hl ⊢
  have hl : lv_has ls 5 [(0, .ref (a 0)), (1, .int p0)] := hl
  refine kt_absQ (fun Q hQ9 => ?_)
  refine lv_iconst (v := (-1)) hx hb dX5_nextOfPlan_0 (by decide) ?_
  refine lv_istore_n (lv' := [(2, .int (-1)), (0, .ref (a 0)), (1, .int p0)]) hx hb dX5_nextOfPlan_1 rfl hl (by decide) rfl (fun ls hl => ?_)
  refine lv_iconst (v := 0) hx hb dX5_nextOfPlan_2 (by decide) ?_
  refine lv_istore_n (lv' := [(3, .int 0), (2, .int (-1)), (0, .ref (a 0)), (1, .int p0)]) hx hb dX5_nextOfPlan_3 rfl hl (by decide) rfl (fun ls hl => ?_)
  have key1 : ∀ (n i1 : Nat) (k1 : Int32) (y1_2 : Int32) (H : Heap) (locs : List Loc) (ls : Array Slot), i1 ≤ 12 → 12 - i1 < n → k1 = nI i1 → va_P (dC, dI) vwCl (mW cI cZ cS cC cJ a v) H → va_S A s.heap H locs → lv_has ls 5 [(3, .int k1), (2, .int y1_2), (0, .ref (a 0)), (1, .int p0)] → (y1_2 = -1 ∨ ∃ j, j < 12 ∧ y1_2 = nI j) → W p l e (headSpec (Cond.code yX5_nextOfPlan cX5_nextOfPlan 5 (some .int) :: WW) ({ frames := 2, cells := 0, slots := 0, locals := 60 })).room s m ([.ref (a 0), .int p0] : List Value).toArray below meth c H locs 0 0 Q (F0 m 4 ls []) := by
    intro n
    induction n with
    | zero => intro i k y1_2 H locs ls h1 h2; exact absurd h2 (by omega)
    | succ n ih1 =>
      intro i1 k1 y1_2 H locs ls hi1 hin1 ek1 hP hS hl hJ1
      refine lv_iload_n hx hb dX5_nextOfPlan_4 rfl (lv_at hl 0 rfl) ?_
      refine lv_aload_n hx hb dX5_nextOfPlan_5 rfl (lv_at hl 2 rfl) ?_
      refine va_get (D := (dC, dI)) (ci := 5) (v := .int (v 0 5)) (C := RX5) (T := TX5) (N := 11) hx hb hts (fun w h => List.mem_cons_of_mem _ (inWX5 w h)) hown hK hP 0 at_0 rfl 5 (by decide) (hts _ (List.mem_cons_of_mem _ kw_t1_162)) (fun _ h9 => h9) rfl dX5_nextOfPlan_6 ?_
      refine lv_topi (fun t_1 et_1 => ?_)
      have hsc_1 : 0 ≤ t_1.toInt ∧ t_1.toInt ≤ 12 := by rw [et_1]; exact hI.sc
      refine lv_icmp_ge (tgt := 82) hx hb dX5_nextOfPlan_9 (by decide) (fun c_2 => ?_) (fun c_2 => ?_)
      · refine lv_iload_n hx hb dX5_nextOfPlan_82 rfl (lv_at hl 1 rfl) ?_
        rw [hQ9]
        exact W.iret (v := y1_2) hx hb hr (fun t ht hW => ⟨⟨y1_2, (), rfl, trivial, kt_heap ht hP⟩, hS.F ht⟩) hS.2.2 dX5_nextOfPlan_83
      · refine lv_iload_n hx hb dX5_nextOfPlan_12 rfl (lv_at hl 3 rfl) ?_
        refine lv_iload_n hx hb dX5_nextOfPlan_13 rfl (lv_at hl 0 rfl) ?_
        have hFc := mA_free (a := a) hS hA hAc
        refine va_calli (va_runS (As := [.int p0, .int k1]) (rest := []) ⟨hx, hb, hml, hown, hts⟩ (c_X5_isIn l dC dI cI cZ cS cC cJ a v H.size p0 k1 hD hI.self) (va_cwS 2 hts (gS (fun w h => List.mem_cons_of_mem _ h) kw_t2_112 kw_t1_212 kw_t1_1 kw_t1_213) rfl rfl rfl (by decide +kernel) ⟨Nat.le_of_ble_eq_true rfl, Nat.le_of_ble_eq_true rfl⟩) ⟨fun av U g mk q => by obtain ⟨q0, q1, qP, qK, qN⟩ := q; exact ⟨q0, q1, qP, va_K.moved (u := U) (U := U.calling g mk av) (Vm.Alike.refl U.vm) qK, mN_same qN⟩, fun U hU hW => ⟨rfl, by rw [hU], by rw [hU]; exact hP, va_K.moved hW.alike hK, mN_warm hW hN⟩⟩ rfl rfl hl.1 rfl (lv_room (Nat.le_of_ble_eq_true rfl)) dX5_nextOfPlan_14 ⟨Nat.le_of_ble_eq_true rfl, Nat.le_of_ble_eq_true rfl⟩) hS (fun q _ h => hFc q h) hFc (fun r_3 _ t H locs ht hvm hw_3 hP _ _ hS => ?_)
        have hP := kt_heap2 ht hP
        clear ht hFc
        have hP : va_P (dC, dI) vwCl (mW cI cZ cS cC cJ a v) H := hP
        refine lv_if_ne (tgt := 40) hx hb dX5_nextOfPlan_17 (by decide) (fun c_4 => ?_) (fun c_4 => ?_)
        · refine lv_iconst (v := 0) hx hb dX5_nextOfPlan_40 (by decide) ?_
          refine lv_istore (lv' := [(4, .int 0), (3, .int k1), (2, .int y1_2), (0, .ref (a 0)), (1, .int p0)]) hx hb dX5_nextOfPlan_41 hl (by decide) rfl (fun ls hl => ?_)
          refine lv_iload hx hb dX5_nextOfPlan_43 (lv_at hl 0 rfl) ?_
          refine lv_if_eq (tgt := 76) hx hb dX5_nextOfPlan_45 (by decide) (fun c_5 => ?_) (fun c_5 => absurd (by decide) c_5)
          obtain ⟨t_6, et_6⟩ : ∃ y : Int32, y = k1 + 1 := ⟨_, rfl⟩
          refine lv_iinc (v := t_6) (lv' := [(3, .int t_6), (4, .int 0), (2, .int y1_2), (0, .ref (a 0)), (1, .int p0)]) hx hb dX5_nextOfPlan_76 hl (k := 1) rfl (by rw [et_6]; rfl) (by decide) rfl (fun ls hl => ?_)
          refine lv_goto (tgt := 4) hx hb dX5_nextOfPlan_79 (by decide) ?_
          have hi_7 : i1 < 12 := kt_lt12 hsc_1 ek1 hi1 c_2
          exact ih1 (i1 + 1) t_6 y1_2 _ _ _ (by omega) (by omega) (by rw [et_6, ek1]; exact nI_1 i1) hP hS (lv_sub hl [0, 2, 3, 4] rfl) hJ1
        · refine lv_aload_n hx hb dX5_nextOfPlan_20 rfl (lv_at hl 2 rfl) ?_
          refine va_get (D := (dC, dI)) (ci := 5) (v := .ref (a 3)) (C := RX5) (T := TX5) (N := 11) hx hb hts (fun w h => List.mem_cons_of_mem _ (inWX5 w h)) hown hK hP 0 at_0 rfl 2 (by decide) (hts _ (List.mem_cons_of_mem _ kw_t1_159)) (fun _ h9 => h9) rfl dX5_nextOfPlan_21 ?_
          refine va_get (D := (dC, dI)) (ci := 4) (v := .ref (a 4)) (C := RX4) (T := TX4) (N := 1) hx hb hts (fun w h => List.mem_cons_of_mem _ (inWX4 w h)) hown hK hP 3 at_3 rfl 0 (by decide) (hts _ (List.mem_cons_of_mem _ kw_t1_33)) (fun _ h9 => h9) rfl dX5_nextOfPlan_24 ?_
          refine lv_iload_n hx hb dX5_nextOfPlan_27 rfl (lv_at hl 0 rfl) ?_
          have hi_8 : i1 < 12 := kt_lt12 hsc_1 ek1 hi1 c_2
          refine va_iald hx hb hK hP 4 0 at_4 rfl (kt_inN ek1 (by omega) (by decide)) dX5_nextOfPlan_28 ?_
          refine lv_topi (fun t_9 et_9 => ?_)
          rw [ek1, nI_clamp (by omega)] at et_9
          refine lv_iload_n hx hb dX5_nextOfPlan_29 rfl (lv_at hl 3 rfl) ?_
          refine lv_iconst (v := (-1)) hx hb dX5_nextOfPlan_30 (by decide) ?_
          refine lv_ixor hx hb dX5_nextOfPlan_31 ?_
          refine lv_topi (fun t_10 et_10 => ?_)
          refine lv_iand hx hb dX5_nextOfPlan_32 ?_
          refine lv_topi (fun t_11 et_11 => ?_)
          refine lv_if_ne (tgt := 40) hx hb dX5_nextOfPlan_33 (by decide) (fun c_12 => ?_) (fun c_12 => ?_)
          · refine lv_iconst (v := 0) hx hb dX5_nextOfPlan_40 (by decide) ?_
            refine lv_istore (lv' := [(4, .int 0), (3, .int k1), (2, .int y1_2), (0, .ref (a 0)), (1, .int p0)]) hx hb dX5_nextOfPlan_41 hl (by decide) rfl (fun ls hl => ?_)
            refine lv_iload hx hb dX5_nextOfPlan_43 (lv_at hl 0 rfl) ?_
            refine lv_if_eq (tgt := 76) hx hb dX5_nextOfPlan_45 (by decide) (fun c_13 => ?_) (fun c_13 => absurd (by decide) c_13)
            obtain ⟨t_14, et_14⟩ : ∃ y : Int32, y = k1 + 1 := ⟨_, rfl⟩
            refine lv_iinc (v := t_14) (lv' := [(3, .int t_14), (4, .int 0), (2, .int y1_2), (0, .ref (a 0)), (1, .int p0)]) hx hb dX5_nextOfPlan_76 hl (k := 1) rfl (by rw [et_14]; rfl) (by decide) rfl (fun ls hl => ?_)
            refine lv_goto (tgt := 4) hx hb dX5_nextOfPlan_79 (by decide) ?_
            exact ih1 (i1 + 1) t_14 y1_2 _ _ _ (by omega) (by omega) (by rw [et_14, ek1]; exact nI_1 i1) hP hS (lv_sub hl [0, 2, 3, 4] rfl) hJ1
          · refine lv_iconst (v := 1) hx hb dX5_nextOfPlan_36 (by decide) ?_
            refine lv_goto (tgt := 41) hx hb dX5_nextOfPlan_37 (by decide) ?_
            refine lv_istore (lv' := [(4, .int 1), (3, .int k1), (2, .int y1_2), (0, .ref (a 0)), (1, .int p0)]) hx hb dX5_nextOfPlan_41 hl (by decide) rfl (fun ls hl => ?_)
            refine lv_iload hx hb dX5_nextOfPlan_43 (lv_at hl 0 rfl) ?_
            refine lv_if_eq (tgt := 76) hx hb dX5_nextOfPlan_45 (by decide) (fun c_15 => absurd c_15 (by decide)) (fun c_15 => ?_)
            refine lv_iload_n hx hb dX5_nextOfPlan_48 rfl (lv_at hl 2 rfl) ?_
            refine lv_iconst (v := (-1)) hx hb dX5_nextOfPlan_49 (by decide) ?_
            refine lv_icmp_eq (tgt := 74) hx hb dX5_nextOfPlan_50 (by decide) (fun c_16 => ?_) (fun c_16 => ?_)
            · refine lv_iload_n hx hb dX5_nextOfPlan_74 rfl (lv_at hl 1 rfl) ?_
              refine lv_istore_n (lv' := [(2, .int k1), (4, .int 1), (3, .int k1), (0, .ref (a 0)), (1, .int p0)]) hx hb dX5_nextOfPlan_75 rfl hl (by decide) rfl (fun ls hl => ?_)
              obtain ⟨t_17, et_17⟩ : ∃ y : Int32, y = k1 + 1 := ⟨_, rfl⟩
              refine lv_iinc (v := t_17) (lv' := [(3, .int t_17), (2, .int k1), (4, .int 1), (0, .ref (a 0)), (1, .int p0)]) hx hb dX5_nextOfPlan_76 hl (k := 2) rfl (by rw [et_17]; rfl) (by decide) rfl (fun ls hl => ?_)
              refine lv_goto (tgt := 4) hx hb dX5_nextOfPlan_79 (by decide) ?_
              exact ih1 (i1 + 1) t_17 k1 _ _ _ (by omega) (by omega) (by rw [et_17, ek1]; exact nI_1 i1) hP hS (lv_sub hl [0, 1, 3, 4] rfl) (Or.inr ⟨i1, hi_8, ek1⟩)
            · refine lv_aload_n hx hb dX5_nextOfPlan_53 rfl (lv_at hl 3 rfl) ?_
              refine va_get (D := (dC, dI)) (ci := 5) (v := .ref (a 1)) (C := RX5) (T := TX5) (N := 11) hx hb hts (fun w h => List.mem_cons_of_mem _ (inWX5 w h)) hown hK hP 0 at_0 rfl 0 (by decide) (hts _ (List.mem_cons_of_mem _ kw_t1_157)) (fun _ h9 => h9) rfl dX5_nextOfPlan_54 ?_
              refine lv_iload_n hx hb dX5_nextOfPlan_57 rfl (lv_at hl 1 rfl) ?_
              refine m_aldS hx hb hK hP ek1 hi_8 dX5_nextOfPlan_58 ?_
              have hFc := mA_free (a := a) hS hA hAc
              refine va_calli (va_runV (As := []) (rest := []) ⟨hx, hb, hml, hown, hts⟩ (c_X3_endOfLife l dC dI cI cZ cS cC cJ a v H.size i1 hi_8 hD hI.self) (cwV 0 hts (gV (fun w h => List.mem_cons_of_mem _ h) kw_t2_176 kw_t2_177 kw_t2_178 kw_t1_6 kw_t2_179) rfl rfl rfl (by decide +kernel) ⟨Nat.le_of_ble_eq_true rfl, Nat.le_of_ble_eq_true rfl⟩) ⟨fun av U g mk q => by obtain ⟨q0, q1, qP, qK, qN⟩ := q; exact ⟨q0, q1, qP, va_K.moved (u := U) (U := U.calling g mk av) (Vm.Alike.refl U.vm) qK, mN_same qN⟩, va_recv hK hP (ci := 3) (q0 := (10 + 3 * i1)) rfl (at_S hi_8), fun U hU hW => ⟨rfl, by rw [hU], by rw [hU]; exact hP, va_K.moved hW.alike hK, mN_warm hW hN⟩⟩ rfl rfl hl.1 rfl (lv_room (Nat.le_of_ble_eq_true rfl)) dX5_nextOfPlan_59 ⟨Nat.le_of_ble_eq_true rfl, Nat.le_of_ble_eq_true rfl⟩) hS (fun q _ h => hFc q h) hFc (fun r_18 _ t H locs ht hvm hw_18 hP _ _ hS => ?_)
              have hP := kt_heap2 ht hP
              clear ht hFc
              have hP : va_P (dC, dI) vwCl (mW cI cZ cS cC cJ a v) H := hP
              refine lv_aload_n hx hb dX5_nextOfPlan_62 rfl (lv_at hl 3 rfl) ?_
              refine va_get (D := (dC, dI)) (ci := 5) (v := .ref (a 1)) (C := RX5) (T := TX5) (N := 11) hx hb hts (fun w h => List.mem_cons_of_mem _ (inWX5 w h)) hown hK hP 0 at_0 rfl 0 (by decide) (hts _ (List.mem_cons_of_mem _ kw_t1_157)) (fun _ h9 => h9) rfl dX5_nextOfPlan_63 ?_
              refine lv_iload_n hx hb dX5_nextOfPlan_66 rfl (lv_at hl 2 rfl) ?_
              obtain ⟨ix_19, hx_19, ex_19⟩ := hJ1.resolve_left (by first | exact c_16 | exact c_12 | exact c_4 | exact c_2)
              refine m_aldS hx hb hK hP ex_19 hx_19 dX5_nextOfPlan_67 ?_
              have hFc := mA_free (a := a) hS hA hAc
              refine va_calli (va_runV (As := []) (rest := [.int r_18]) ⟨hx, hb, hml, hown, hts⟩ (c_X3_endOfLife l dC dI cI cZ cS cC cJ a v H.size ix_19 hx_19 hD hI.self) (cwV 0 hts (gV (fun w h => List.mem_cons_of_mem _ h) kw_t2_176 kw_t2_177 kw_t2_178 kw_t1_6 kw_t2_179) rfl rfl rfl (by decide +kernel) ⟨Nat.le_of_ble_eq_true rfl, Nat.le_of_ble_eq_true rfl⟩) ⟨fun av U g mk q => by obtain ⟨q0, q1, qP, qK, qN⟩ := q; exact ⟨q0, q1, qP, va_K.moved (u := U) (U := U.calling g mk av) (Vm.Alike.refl U.vm) qK, mN_same qN⟩, va_recv hK hP (ci := 3) (q0 := (10 + 3 * ix_19)) rfl (at_S hx_19), fun U hU hW => ⟨rfl, by rw [hU], by rw [hU]; exact hP, va_K.moved hW.alike hK, mN_warm hW hN⟩⟩ rfl rfl hl.1 rfl (lv_room (Nat.le_of_ble_eq_true rfl)) dX5_nextOfPlan_68 ⟨Nat.le_of_ble_eq_true rfl, Nat.le_of_ble_eq_true rfl⟩) hS (fun q _ h => hFc q h) hFc (fun r_20 _ t H locs ht hvm hw_20 hP _ _ hS => ?_)
              have hP := kt_heap2 ht hP
              clear ht hFc
              have hP : va_P (dC, dI) vwCl (mW cI cZ cS cC cJ a v) H := hP
              refine lv_icmp_ge (tgt := 76) hx hb dX5_nextOfPlan_71 (by decide) (fun c_21 => ?_) (fun c_21 => ?_)
              · obtain ⟨t_22, et_22⟩ : ∃ y : Int32, y = k1 + 1 := ⟨_, rfl⟩
                refine lv_iinc (v := t_22) (lv' := [(3, .int t_22), (4, .int 1), (2, .int y1_2), (0, .ref (a 0)), (1, .int p0)]) hx hb dX5_nextOfPlan_76 hl (k := 1) rfl (by rw [et_22]; rfl) (by decide) rfl (fun ls hl => ?_)
                refine lv_goto (tgt := 4) hx hb dX5_nextOfPlan_79 (by decide) ?_
                exact ih1 (i1 + 1) t_22 y1_2 _ _ _ (by omega) (by omega) (by rw [et_22, ek1]; exact nI_1 i1) hP hS (lv_sub hl [0, 2, 3, 4] rfl) hJ1
              · refine lv_iload_n hx hb dX5_nextOfPlan_74 rfl (lv_at hl 1 rfl) ?_
                refine lv_istore_n (lv' := [(2, .int k1), (4, .int 1), (3, .int k1), (0, .ref (a 0)), (1, .int p0)]) hx hb dX5_nextOfPlan_75 rfl hl (by decide) rfl (fun ls hl => ?_)
                obtain ⟨t_23, et_23⟩ : ∃ y : Int32, y = k1 + 1 := ⟨_, rfl⟩
                refine lv_iinc (v := t_23) (lv' := [(3, .int t_23), (2, .int k1), (4, .int 1), (0, .ref (a 0)), (1, .int p0)]) hx hb dX5_nextOfPlan_76 hl (k := 2) rfl (by rw [et_23]; rfl) (by decide) rfl (fun ls hl => ?_)
                refine lv_goto (tgt := 4) hx hb dX5_nextOfPlan_79 (by decide) ?_
                exact ih1 (i1 + 1) t_23 k1 _ _ _ (by omega) (by omega) (by rw [et_23, ek1]; exact nI_1 i1) hP hS (lv_sub hl [0, 1, 3, 4] rfl) (Or.inr ⟨i1, hi_8, ek1⟩)
  exact key1 (12 + 1) 0 0 (-1) _ _ _ (Nat.zero_le _) (by omega) rfl hP hS (lv_sub hl [0, 1, 2, 3] rfl) (Or.inl rfl)

set_option maxHeartbeats 4000000 in
set_option maxRecDepth 100000 in
theorem c_X5_turnsGoingOn (l : Launch) (dC : Nat → ClassId) (dI : Nat → Nat → Nat) (cI cZ cS cC cJ : ClassId) (a : Nat → Nat) (v : Nat → Nat → Int32) (sz : Nat) (hD : mDD a) (hI : kI v v) : Met l yX5_turnsGoingOn (Cond.code yX5_turnsGoingOn cX5_turnsGoingOn 3 (some .int) :: WW) ({ frames := 3, cells := 0, slots := 0, locals := 90 }) (va_Pc [.ref (a 0)] (fun U => U.heap.size = sz ∧ va_P (dC, dI) vwCl (mW cI cZ cS cC cJ a v) U.heap ∧ va_K (dC, dI) vwCl [(cI, .int), (cZ, .boolean), (cS, .object RX3), (cC, .object RX0), (cJ, .long)] U ∧ mN U)) (va_Qi (fun (r : Int32) (_u : Unit) => True) (fun (_ : Unit) (t : State) => va_P (dC, dI) vwCl (mW cI cZ cS cC cJ a v) t.heap) (mA a sz)) 0 0 (mA a sz) := by
  refine Met.ofW (cc := cX5_turnsGoingOn) (maxL := 3) (ret := (some .int)) (by decide) rfl ?_
  intro p e s m args below meth c s₁ B hml hv
  obtain ⟨rfl, hsz, hP, hK, hN⟩ := hv
  have hx := B.exec
  have hb := B.bytes
  have hr := B.returns
  have hts := atoms_spec (ws := Cond.code yX5_turnsGoingOn cX5_turnsGoingOn 3 (some .int) :: WW) B.pre
  have hown : s.vm.findClass RX5 = some m.cls := findClass_of_methodNamed B.named
  have hlocks := B.notSynchronized
  subst hsz
  have hAc : ∀ c, c < 81 → mA a s.heap.size (a c) := fun c h => Or.inl ⟨c, h, rfl⟩
  have hA : ∀ q : Nat, s.heap.size ≤ q → mA a s.heap.size q := fun q h => Or.inr h
  generalize hAe : mA a s.heap.size = A at hAc hA ⊢
  have hS : va_S A s.heap s.heap [] := va_S.rf
  have hl := lv_entry ([.ref (a 0)]) (n := 3) (Nat.le_of_ble_eq_true rfl)
  rw [lg_entry_eq]
  generalize (lg_sl ([.ref (a 0)]) ++ List.replicate (3 - (lg_sl ([.ref (a 0)])).length) Slot.unset).toArray = ls at hl ⊢
  have hl : lv_has ls 3 [(0, .ref (a 0))] := hl
  refine kt_absQ (fun Q hQ9 => ?_)
  refine lv_iconst (v := 0) hx hb dX5_turnsGoingOn_0 (by decide) ?_
  refine lv_istore_n (lv' := [(1, .int 0), (0, .ref (a 0))]) hx hb dX5_turnsGoingOn_1 rfl hl (by decide) rfl (fun ls hl => ?_)
  refine lv_iconst (v := 0) hx hb dX5_turnsGoingOn_2 (by decide) ?_
  refine lv_istore_n (lv' := [(2, .int 0), (1, .int 0), (0, .ref (a 0))]) hx hb dX5_turnsGoingOn_3 rfl hl (by decide) rfl (fun ls hl => ?_)
  have key1 : ∀ (n i1 : Nat) (k1 : Int32) (y1_1 : Int32) (H : Heap) (locs : List Loc) (ls : Array Slot), i1 ≤ 12 → 12 - i1 < n → k1 = nI i1 → va_P (dC, dI) vwCl (mW cI cZ cS cC cJ a v) H → va_S A s.heap H locs → lv_has ls 3 [(2, .int k1), (1, .int y1_1), (0, .ref (a 0))] → W p l e (headSpec (Cond.code yX5_turnsGoingOn cX5_turnsGoingOn 3 (some .int) :: WW) ({ frames := 3, cells := 0, slots := 0, locals := 90 })).room s m ([.ref (a 0)] : List Value).toArray below meth c H locs 0 0 Q (F0 m 4 ls []) := by
    intro n
    induction n with
    | zero => intro i k y1_1 H locs ls h1 h2; exact absurd h2 (by omega)
    | succ n ih1 =>
      intro i1 k1 y1_1 H locs ls hi1 hin1 ek1 hP hS hl
      refine lv_iload_n hx hb dX5_turnsGoingOn_4 rfl (lv_at hl 0 rfl) ?_
      refine lv_aload_n hx hb dX5_turnsGoingOn_5 rfl (lv_at hl 2 rfl) ?_
      refine va_get (D := (dC, dI)) (ci := 5) (v := .int (v 0 5)) (C := RX5) (T := TX5) (N := 11) hx hb hts (fun w h => List.mem_cons_of_mem _ (inWX5 w h)) hown hK hP 0 at_0 rfl 5 (by decide) (hts _ (List.mem_cons_of_mem _ kw_t1_162)) (fun _ h9 => h9) rfl dX5_turnsGoingOn_6 ?_
      refine lv_topi (fun t_1 et_1 => ?_)
      have hsc_1 : 0 ≤ t_1.toInt ∧ t_1.toInt ≤ 12 := by rw [et_1]; exact hI.sc
      refine lv_icmp_ge (tgt := 38) hx hb dX5_turnsGoingOn_9 (by decide) (fun c_2 => ?_) (fun c_2 => ?_)
      · refine lv_iload_n hx hb dX5_turnsGoingOn_38 rfl (lv_at hl 1 rfl) ?_
        rw [hQ9]
        exact W.iret (v := y1_1) hx hb hr (fun t ht hW => ⟨⟨y1_1, (), rfl, trivial, kt_heap ht hP⟩, hS.F ht⟩) hS.2.2 dX5_turnsGoingOn_39
      · refine lv_iload_n hx hb dX5_turnsGoingOn_12 rfl (lv_at hl 1 rfl) ?_
        refine lv_aload_n hx hb dX5_turnsGoingOn_13 rfl (lv_at hl 2 rfl) ?_
        refine va_get (D := (dC, dI)) (ci := 5) (v := .ref (a 2)) (C := RX5) (T := TX5) (N := 11) hx hb hts (fun w h => List.mem_cons_of_mem _ (inWX5 w h)) hown hK hP 0 at_0 rfl 1 (by decide) (hts _ (List.mem_cons_of_mem _ kw_t1_158)) (fun _ h9 => h9) rfl dX5_turnsGoingOn_14 ?_
        refine lv_iload_n hx hb dX5_turnsGoingOn_17 rfl (lv_at hl 0 rfl) ?_
        have hi_3 : i1 < 12 := kt_lt12 hsc_1 ek1 hi1 c_2
        refine m_aldC hx hb hK hP ek1 hi_3 dX5_turnsGoingOn_18 ?_
        have hFc := mA_free (a := a) hS hA hAc
        refine va_calli (va_runV (As := []) (rest := [.int y1_1]) ⟨hx, hb, hml, hown, hts⟩ (c_X0_goesOn l dC dI cI cZ cS cC cJ a v H.size i1 hi_3 hD hI.self) (cwV 0 hts (gV (fun w h => List.mem_cons_of_mem _ h) kw_t2_6 kw_t2_7 kw_t2_8 kw_t1_5 kw_t2_9) rfl rfl rfl (by decide +kernel) ⟨Nat.le_of_ble_eq_true rfl, Nat.le_of_ble_eq_true rfl⟩) ⟨fun av U g mk q => by obtain ⟨q0, q1, qP, qK, qN⟩ := q; exact ⟨q0, q1, qP, va_K.moved (u := U) (U := U.calling g mk av) (Vm.Alike.refl U.vm) qK, mN_same qN⟩, va_recv hK hP (ci := 0) (q0 := (9 + 3 * i1)) rfl (at_C hi_3), fun U hU hW => ⟨rfl, by rw [hU], by rw [hU]; exact hP, va_K.moved hW.alike hK, mN_warm hW hN⟩⟩ rfl rfl hl.1 rfl (lv_room (Nat.le_of_ble_eq_true rfl)) dX5_turnsGoingOn_19 ⟨Nat.le_of_ble_eq_true rfl, Nat.le_of_ble_eq_true rfl⟩) hS (fun q _ h => hFc q h) hFc (fun r_4 _ t H locs ht hvm hw_4 hP _ _ hS => ?_)
        have hP := kt_heap2 ht hP
        clear ht hFc
        have hP : va_P (dC, dI) vwCl (mW cI cZ cS cC cJ a v) H := hP
        refine lv_if_eq (tgt := 29) hx hb dX5_turnsGoingOn_22 (by decide) (fun c_5 => ?_) (fun c_5 => ?_)
        · refine lv_iconst (v := 0) hx hb dX5_turnsGoingOn_29 (by decide) ?_
          refine lv_iadd hx hb dX5_turnsGoingOn_30 ?_
          refine lv_topi (fun t_6 et_6 => ?_)
          refine lv_istore_n (lv' := [(1, .int t_6), (2, .int k1), (0, .ref (a 0))]) hx hb dX5_turnsGoingOn_31 rfl hl (by decide) rfl (fun ls hl => ?_)
          obtain ⟨t_7, et_7⟩ : ∃ y : Int32, y = k1 + 1 := ⟨_, rfl⟩
          refine lv_iinc (v := t_7) (lv' := [(2, .int t_7), (1, .int t_6), (0, .ref (a 0))]) hx hb dX5_turnsGoingOn_32 hl (k := 1) rfl (by rw [et_7]; rfl) (by decide) rfl (fun ls hl => ?_)
          refine lv_goto (tgt := 4) hx hb dX5_turnsGoingOn_35 (by decide) ?_
          exact ih1 (i1 + 1) t_7 t_6 _ _ _ (by omega) (by omega) (by rw [et_7, ek1]; exact nI_1 i1) hP hS (lv_sub hl [0, 1, 2] rfl)
        · refine lv_iconst (v := 1) hx hb dX5_turnsGoingOn_25 (by decide) ?_
          refine lv_goto (tgt := 30) hx hb dX5_turnsGoingOn_26 (by decide) ?_
          refine lv_iadd hx hb dX5_turnsGoingOn_30 ?_
          refine lv_topi (fun t_8 et_8 => ?_)
          refine lv_istore_n (lv' := [(1, .int t_8), (2, .int k1), (0, .ref (a 0))]) hx hb dX5_turnsGoingOn_31 rfl hl (by decide) rfl (fun ls hl => ?_)
          obtain ⟨t_9, et_9⟩ : ∃ y : Int32, y = k1 + 1 := ⟨_, rfl⟩
          refine lv_iinc (v := t_9) (lv' := [(2, .int t_9), (1, .int t_8), (0, .ref (a 0))]) hx hb dX5_turnsGoingOn_32 hl (k := 1) rfl (by rw [et_9]; rfl) (by decide) rfl (fun ls hl => ?_)
          refine lv_goto (tgt := 4) hx hb dX5_turnsGoingOn_35 (by decide) ?_
          exact ih1 (i1 + 1) t_9 t_8 _ _ _ (by omega) (by omega) (by rw [et_9, ek1]; exact nI_1 i1) hP hS (lv_sub hl [0, 1, 2] rfl)
  exact key1 (12 + 1) 0 0 0 _ _ _ (Nat.zero_le _) (by omega) rfl hP hS (lv_sub hl [0, 1, 2] rfl)

set_option maxHeartbeats 4000000 in
set_option maxRecDepth 100000 in
theorem c_X5_lettersUnanswered (l : Launch) (dC : Nat → ClassId) (dI : Nat → Nat → Nat) (cI cZ cS cC cJ : ClassId) (a : Nat → Nat) (v : Nat → Nat → Int32) (sz : Nat) (hD : mDD a) (hI : kI v v) : Met l yX5_lettersUnanswered (Cond.code yX5_lettersUnanswered cX5_lettersUnanswered 3 (some .int) :: WW) ({ frames := 3, cells := 0, slots := 0, locals := 90 }) (va_Pc [.ref (a 0)] (fun U => U.heap.size = sz ∧ va_P (dC, dI) vwCl (mW cI cZ cS cC cJ a v) U.heap ∧ va_K (dC, dI) vwCl [(cI, .int), (cZ, .boolean), (cS, .object RX3), (cC, .object RX0), (cJ, .long)] U ∧ mN U)) (va_Qi (fun (r : Int32) (_u : Unit) => True) (fun (_ : Unit) (t : State) => va_P (dC, dI) vwCl (mW cI cZ cS cC cJ a v) t.heap) (mA a sz)) 0 0 (mA a sz) := by
  refine Met.ofW (cc := cX5_lettersUnanswered) (maxL := 3) (ret := (some .int)) (by decide) rfl ?_
  intro p e s m args below meth c s₁ B hml hv
  obtain ⟨rfl, hsz, hP, hK, hN⟩ := hv
  have hx := B.exec
  have hb := B.bytes
  have hr := B.returns
  have hts := atoms_spec (ws := Cond.code yX5_lettersUnanswered cX5_lettersUnanswered 3 (some .int) :: WW) B.pre
  have hown : s.vm.findClass RX5 = some m.cls := findClass_of_methodNamed B.named
  have hlocks := B.notSynchronized
  subst hsz
  have hAc : ∀ c, c < 81 → mA a s.heap.size (a c) := fun c h => Or.inl ⟨c, h, rfl⟩
  have hA : ∀ q : Nat, s.heap.size ≤ q → mA a s.heap.size q := fun q h => Or.inr h
  generalize hAe : mA a s.heap.size = A at hAc hA ⊢
  have hS : va_S A s.heap s.heap [] := va_S.rf
  have hl := lv_entry ([.ref (a 0)]) (n := 3) (Nat.le_of_ble_eq_true rfl)
  rw [lg_entry_eq]
  generalize (lg_sl ([.ref (a 0)]) ++ List.replicate (3 - (lg_sl ([.ref (a 0)])).length) Slot.unset).toArray = ls at hl ⊢
  have hl : lv_has ls 3 [(0, .ref (a 0))] := hl
  refine kt_absQ (fun Q hQ9 => ?_)
  refine lv_iconst (v := 0) hx hb dX5_lettersUnanswered_0 (by decide) ?_
  refine lv_istore_n (lv' := [(1, .int 0), (0, .ref (a 0))]) hx hb dX5_lettersUnanswered_1 rfl hl (by decide) rfl (fun ls hl => ?_)
  refine lv_iconst (v := 0) hx hb dX5_lettersUnanswered_2 (by decide) ?_
  refine lv_istore_n (lv' := [(2, .int 0), (1, .int 0), (0, .ref (a 0))]) hx hb dX5_lettersUnanswered_3 rfl hl (by decide) rfl (fun ls hl => ?_)
  have key1 : ∀ (n i1 : Nat) (k1 : Int32) (y1_1 : Int32) (H : Heap) (locs : List Loc) (ls : Array Slot), i1 ≤ 12 → 12 - i1 < n → k1 = nI i1 → va_P (dC, dI) vwCl (mW cI cZ cS cC cJ a v) H → va_S A s.heap H locs → lv_has ls 3 [(2, .int k1), (1, .int y1_1), (0, .ref (a 0))] → W p l e (headSpec (Cond.code yX5_lettersUnanswered cX5_lettersUnanswered 3 (some .int) :: WW) ({ frames := 3, cells := 0, slots := 0, locals := 90 })).room s m ([.ref (a 0)] : List Value).toArray below meth c H locs 0 0 Q (F0 m 4 ls []) := by
    intro n
    induction n with
    | zero => intro i k y1_1 H locs ls h1 h2; exact absurd h2 (by omega)
    | succ n ih1 =>
      intro i1 k1 y1_1 H locs ls hi1 hin1 ek1 hP hS hl
      refine lv_iload_n hx hb dX5_lettersUnanswered_4 rfl (lv_at hl 0 rfl) ?_
      refine lv_aload_n hx hb dX5_lettersUnanswered_5 rfl (lv_at hl 2 rfl) ?_
      refine va_get (D := (dC, dI)) (ci := 5) (v := .int (v 0 5)) (C := RX5) (T := TX5) (N := 11) hx hb hts (fun w h => List.mem_cons_of_mem _ (inWX5 w h)) hown hK hP 0 at_0 rfl 5 (by decide) (hts _ (List.mem_cons_of_mem _ kw_t1_162)) (fun _ h9 => h9) rfl dX5_lettersUnanswered_6 ?_
      refine lv_topi (fun t_1 et_1 => ?_)
      have hsc_1 : 0 ≤ t_1.toInt ∧ t_1.toInt ≤ 12 := by rw [et_1]; exact hI.sc
      refine lv_icmp_ge (tgt := 30) hx hb dX5_lettersUnanswered_9 (by decide) (fun c_2 => ?_) (fun c_2 => ?_)
      · refine lv_iload_n hx hb dX5_lettersUnanswered_30 rfl (lv_at hl 1 rfl) ?_
        rw [hQ9]
        exact W.iret (v := y1_1) hx hb hr (fun t ht hW => ⟨⟨y1_1, (), rfl, trivial, kt_heap ht hP⟩, hS.F ht⟩) hS.2.2 dX5_lettersUnanswered_31
      · refine lv_iload_n hx hb dX5_lettersUnanswered_12 rfl (lv_at hl 1 rfl) ?_
        refine lv_aload_n hx hb dX5_lettersUnanswered_13 rfl (lv_at hl 2 rfl) ?_
        refine va_get (D := (dC, dI)) (ci := 5) (v := .ref (a 2)) (C := RX5) (T := TX5) (N := 11) hx hb hts (fun w h => List.mem_cons_of_mem _ (inWX5 w h)) hown hK hP 0 at_0 rfl 1 (by decide) (hts _ (List.mem_cons_of_mem _ kw_t1_158)) (fun _ h9 => h9) rfl dX5_lettersUnanswered_14 ?_
        refine lv_iload_n hx hb dX5_lettersUnanswered_17 rfl (lv_at hl 0 rfl) ?_
        have hi_3 : i1 < 12 := kt_lt12 hsc_1 ek1 hi1 c_2
        refine m_aldC hx hb hK hP ek1 hi_3 dX5_lettersUnanswered_18 ?_
        have hFc := mA_free (a := a) hS hA hAc
        refine va_calli (va_runV (As := []) (rest := [.int y1_1]) ⟨hx, hb, hml, hown, hts⟩ (c_X0_letterCount l dC dI cI cZ cS cC cJ a v H.size i1 hi_3 hD hI.self) (cwV 0 hts (gV (fun w h => List.mem_cons_of_mem _ h) kw_t2_150 kw_t2_151 kw_t2_152 kw_t1_5 kw_t2_153) rfl rfl rfl (by decide +kernel) ⟨Nat.le_of_ble_eq_true rfl, Nat.le_of_ble_eq_true rfl⟩) ⟨fun av U g mk q => by obtain ⟨q0, q1, qP, qK, qN⟩ := q; exact ⟨q0, q1, qP, va_K.moved (u := U) (U := U.calling g mk av) (Vm.Alike.refl U.vm) qK, mN_same qN⟩, va_recv hK hP (ci := 0) (q0 := (9 + 3 * i1)) rfl (at_C hi_3), fun U hU hW => ⟨rfl, by rw [hU], by rw [hU]; exact hP, va_K.moved hW.alike hK, mN_warm hW hN⟩⟩ rfl rfl hl.1 rfl (lv_room (Nat.le_of_ble_eq_true rfl)) dX5_lettersUnanswered_19 ⟨Nat.le_of_ble_eq_true rfl, Nat.le_of_ble_eq_true rfl⟩) hS (fun q _ h => hFc q h) hFc (fun r_4 _ t H locs ht hvm hw_4 hP _ _ hS => ?_)
        have hP := kt_heap2 ht hP
        clear ht hFc
        have hP : va_P (dC, dI) vwCl (mW cI cZ cS cC cJ a v) H := hP
        refine lv_iadd hx hb dX5_lettersUnanswered_22 ?_
        refine lv_topi (fun t_5 et_5 => ?_)
        refine lv_istore_n (lv' := [(1, .int t_5), (2, .int k1), (0, .ref (a 0))]) hx hb dX5_lettersUnanswered_23 rfl hl (by decide) rfl (fun ls hl => ?_)
        obtain ⟨t_6, et_6⟩ : ∃ y : Int32, y = k1 + 1 := ⟨_, rfl⟩
        refine lv_iinc (v := t_6) (lv' := [(2, .int t_6), (1, .int t_5), (0, .ref (a 0))]) hx hb dX5_lettersUnanswered_24 hl (k := 1) rfl (by rw [et_6]; rfl) (by decide) rfl (fun ls hl => ?_)
        refine lv_goto (tgt := 4) hx hb dX5_lettersUnanswered_27 (by decide) ?_
        exact ih1 (i1 + 1) t_6 t_5 _ _ _ (by omega) (by omega) (by rw [et_6, ek1]; exact nI_1 i1) hP hS (lv_sub hl [0, 1, 2] rfl)
  exact key1 (12 + 1) 0 0 0 _ _ _ (Nat.zero_le _) (by omega) rfl hP hS (lv_sub hl [0, 1, 2] rfl)

set_option maxHeartbeats 4000000 in
set_option maxRecDepth 100000 in
theorem c_X5_secretsPastLife (l : Launch) (dC : Nat → ClassId) (dI : Nat → Nat → Nat) (cI cZ cS cC cJ : ClassId) (a : Nat → Nat) (v : Nat → Nat → Int32) (sz : Nat) (hD : mDD a) (hI : kI v v) : Met l yX5_secretsPastLife (Cond.code yX5_secretsPastLife cX5_secretsPastLife 3 (some .int) :: WW) ({ frames := 3, cells := 0, slots := 0, locals := 90 }) (va_Pc [.ref (a 0)] (fun U => U.heap.size = sz ∧ va_P (dC, dI) vwCl (mW cI cZ cS cC cJ a v) U.heap ∧ va_K (dC, dI) vwCl [(cI, .int), (cZ, .boolean), (cS, .object RX3), (cC, .object RX0), (cJ, .long)] U ∧ mN U)) (va_Qi (fun (r : Int32) (_u : Unit) => True) (fun (_ : Unit) (t : State) => va_P (dC, dI) vwCl (mW cI cZ cS cC cJ a v) t.heap) (mA a sz)) 0 0 (mA a sz) := by
  refine Met.ofW (cc := cX5_secretsPastLife) (maxL := 3) (ret := (some .int)) (by decide) rfl ?_
  intro p e s m args below meth c s₁ B hml hv
  obtain ⟨rfl, hsz, hP, hK, hN⟩ := hv
  have hx := B.exec
  have hb := B.bytes
  have hr := B.returns
  have hts := atoms_spec (ws := Cond.code yX5_secretsPastLife cX5_secretsPastLife 3 (some .int) :: WW) B.pre
  have hown : s.vm.findClass RX5 = some m.cls := findClass_of_methodNamed B.named
  have hlocks := B.notSynchronized
  subst hsz
  have hAc : ∀ c, c < 81 → mA a s.heap.size (a c) := fun c h => Or.inl ⟨c, h, rfl⟩
  have hA : ∀ q : Nat, s.heap.size ≤ q → mA a s.heap.size q := fun q h => Or.inr h
  generalize hAe : mA a s.heap.size = A at hAc hA ⊢
  have hS : va_S A s.heap s.heap [] := va_S.rf
  have hl := lv_entry ([.ref (a 0)]) (n := 3) (Nat.le_of_ble_eq_true rfl)
  rw [lg_entry_eq]
  generalize (lg_sl ([.ref (a 0)]) ++ List.replicate (3 - (lg_sl ([.ref (a 0)])).length) Slot.unset).toArray = ls at hl ⊢
  have hl : lv_has ls 3 [(0, .ref (a 0))] := hl
  refine kt_absQ (fun Q hQ9 => ?_)
  refine lv_iconst (v := 0) hx hb dX5_secretsPastLife_0 (by decide) ?_
  refine lv_istore_n (lv' := [(1, .int 0), (0, .ref (a 0))]) hx hb dX5_secretsPastLife_1 rfl hl (by decide) rfl (fun ls hl => ?_)
  refine lv_iconst (v := 0) hx hb dX5_secretsPastLife_2 (by decide) ?_
  refine lv_istore_n (lv' := [(2, .int 0), (1, .int 0), (0, .ref (a 0))]) hx hb dX5_secretsPastLife_3 rfl hl (by decide) rfl (fun ls hl => ?_)
  have key1 : ∀ (n i1 : Nat) (k1 : Int32) (y1_1 : Int32) (H : Heap) (locs : List Loc) (ls : Array Slot), i1 ≤ 12 → 12 - i1 < n → k1 = nI i1 → va_P (dC, dI) vwCl (mW cI cZ cS cC cJ a v) H → va_S A s.heap H locs → lv_has ls 3 [(2, .int k1), (1, .int y1_1), (0, .ref (a 0))] → W p l e (headSpec (Cond.code yX5_secretsPastLife cX5_secretsPastLife 3 (some .int) :: WW) ({ frames := 3, cells := 0, slots := 0, locals := 90 })).room s m ([.ref (a 0)] : List Value).toArray below meth c H locs 0 0 Q (F0 m 4 ls []) := by
    intro n
    induction n with
    | zero => intro i k y1_1 H locs ls h1 h2; exact absurd h2 (by omega)
    | succ n ih1 =>
      intro i1 k1 y1_1 H locs ls hi1 hin1 ek1 hP hS hl
      refine lv_iload_n hx hb dX5_secretsPastLife_4 rfl (lv_at hl 0 rfl) ?_
      refine lv_aload_n hx hb dX5_secretsPastLife_5 rfl (lv_at hl 2 rfl) ?_
      refine va_get (D := (dC, dI)) (ci := 5) (v := .int (v 0 5)) (C := RX5) (T := TX5) (N := 11) hx hb hts (fun w h => List.mem_cons_of_mem _ (inWX5 w h)) hown hK hP 0 at_0 rfl 5 (by decide) (hts _ (List.mem_cons_of_mem _ kw_t1_162)) (fun _ h9 => h9) rfl dX5_secretsPastLife_6 ?_
      refine lv_topi (fun t_1 et_1 => ?_)
      have hsc_1 : 0 ≤ t_1.toInt ∧ t_1.toInt ≤ 12 := by rw [et_1]; exact hI.sc
      refine lv_icmp_ge (tgt := 52) hx hb dX5_secretsPastLife_9 (by decide) (fun c_2 => ?_) (fun c_2 => ?_)
      · refine lv_iload_n hx hb dX5_secretsPastLife_52 rfl (lv_at hl 1 rfl) ?_
        rw [hQ9]
        exact W.iret (v := y1_1) hx hb hr (fun t ht hW => ⟨⟨y1_1, (), rfl, trivial, kt_heap ht hP⟩, hS.F ht⟩) hS.2.2 dX5_secretsPastLife_53
      · refine lv_iload_n hx hb dX5_secretsPastLife_12 rfl (lv_at hl 1 rfl) ?_
        refine lv_aload_n hx hb dX5_secretsPastLife_13 rfl (lv_at hl 2 rfl) ?_
        refine va_get (D := (dC, dI)) (ci := 5) (v := .int (v 0 6)) (C := RX5) (T := TX5) (N := 11) hx hb hts (fun w h => List.mem_cons_of_mem _ (inWX5 w h)) hown hK hP 0 at_0 rfl 6 (by decide) (hts _ (List.mem_cons_of_mem _ kw_t1_163)) (fun _ h9 => h9) rfl dX5_secretsPastLife_14 ?_
        refine lv_topi (fun t_3 et_3 => ?_)
        refine lv_aload_n hx hb dX5_secretsPastLife_17 rfl (lv_at hl 2 rfl) ?_
        refine va_get (D := (dC, dI)) (ci := 5) (v := .ref (a 1)) (C := RX5) (T := TX5) (N := 11) hx hb hts (fun w h => List.mem_cons_of_mem _ (inWX5 w h)) hown hK hP 0 at_0 rfl 0 (by decide) (hts _ (List.mem_cons_of_mem _ kw_t1_157)) (fun _ h9 => h9) rfl dX5_secretsPastLife_18 ?_
        refine lv_iload_n hx hb dX5_secretsPastLife_21 rfl (lv_at hl 0 rfl) ?_
        have hi_4 : i1 < 12 := kt_lt12 hsc_1 ek1 hi1 c_2
        refine m_aldS hx hb hK hP ek1 hi_4 dX5_secretsPastLife_22 ?_
        have hFc := mA_free (a := a) hS hA hAc
        refine va_calli (va_runV (As := []) (rest := [.int t_3, .int y1_1]) ⟨hx, hb, hml, hown, hts⟩ (c_X3_oldestGoodMade l dC dI cI cZ cS cC cJ a v H.size i1 hi_4 hD hI.self) (cwV 0 hts (gV (fun w h => List.mem_cons_of_mem _ h) kw_t2_142 kw_t2_143 kw_t2_144 kw_t1_6 kw_t2_145) rfl rfl rfl (by decide +kernel) ⟨Nat.le_of_ble_eq_true rfl, Nat.le_of_ble_eq_true rfl⟩) ⟨fun av U g mk q => by obtain ⟨q0, q1, qP, qK, qN⟩ := q; exact ⟨q0, q1, qP, va_K.moved (u := U) (U := U.calling g mk av) (Vm.Alike.refl U.vm) qK, mN_same qN⟩, va_recv hK hP (ci := 3) (q0 := (10 + 3 * i1)) rfl (at_S hi_4), fun U hU hW => ⟨rfl, by rw [hU], by rw [hU]; exact hP, va_K.moved hW.alike hK, mN_warm hW hN⟩⟩ rfl rfl hl.1 rfl (lv_room (Nat.le_of_ble_eq_true rfl)) dX5_secretsPastLife_23 ⟨Nat.le_of_ble_eq_true rfl, Nat.le_of_ble_eq_true rfl⟩) hS (fun q _ h => hFc q h) hFc (fun r_5 _ t H locs ht hvm hw_5 hP _ _ hS => ?_)
        have hP := kt_heap2 ht hP
        clear ht hFc
        have hP : va_P (dC, dI) vwCl (mW cI cZ cS cC cJ a v) H := hP
        refine lv_isub hx hb dX5_secretsPastLife_26 ?_
        refine lv_topi (fun t_6 et_6 => ?_)
        refine lv_aload_n hx hb dX5_secretsPastLife_27 rfl (lv_at hl 2 rfl) ?_
        refine va_get (D := (dC, dI)) (ci := 5) (v := .ref (a 1)) (C := RX5) (T := TX5) (N := 11) hx hb hts (fun w h => List.mem_cons_of_mem _ (inWX5 w h)) hown hK hP 0 at_0 rfl 0 (by decide) (hts _ (List.mem_cons_of_mem _ kw_t1_157)) (fun _ h9 => h9) rfl dX5_secretsPastLife_28 ?_
        refine lv_iload_n hx hb dX5_secretsPastLife_31 rfl (lv_at hl 0 rfl) ?_
        refine m_aldS hx hb hK hP ek1 hi_4 dX5_secretsPastLife_32 ?_
        refine va_get (D := (dC, dI)) (ci := 3) (v := .int (v (10 + 3 * i1) 3)) (C := RX3) (T := TX3) (N := 10) hx hb hts (fun w h => List.mem_cons_of_mem _ (inWX3 w h)) hown hK hP (10 + 3 * i1) (at_S hi_4) rfl 3 (by decide) (hts _ (List.mem_cons_of_mem _ kw_t1_90)) (fun _ h9 => h9) rfl dX5_secretsPastLife_33 ?_
        refine lv_topi (fun t_7 et_7 => ?_)
        refine lv_icmp_le (tgt := 43) hx hb dX5_secretsPastLife_36 (by decide) (fun c_8 => ?_) (fun c_8 => ?_)
        · refine lv_iconst (v := 0) hx hb dX5_secretsPastLife_43 (by decide) ?_
          refine lv_iadd hx hb dX5_secretsPastLife_44 ?_
          refine lv_topi (fun t_9 et_9 => ?_)
          refine lv_istore_n (lv' := [(1, .int t_9), (2, .int k1), (0, .ref (a 0))]) hx hb dX5_secretsPastLife_45 rfl hl (by decide) rfl (fun ls hl => ?_)
          obtain ⟨t_10, et_10⟩ : ∃ y : Int32, y = k1 + 1 := ⟨_, rfl⟩
          refine lv_iinc (v := t_10) (lv' := [(2, .int t_10), (1, .int t_9), (0, .ref (a 0))]) hx hb dX5_secretsPastLife_46 hl (k := 1) rfl (by rw [et_10]; rfl) (by decide) rfl (fun ls hl => ?_)
          refine lv_goto (tgt := 4) hx hb dX5_secretsPastLife_49 (by decide) ?_
          exact ih1 (i1 + 1) t_10 t_9 _ _ _ (by omega) (by omega) (by rw [et_10, ek1]; exact nI_1 i1) hP hS (lv_sub hl [0, 1, 2] rfl)
        · refine lv_iconst (v := 1) hx hb dX5_secretsPastLife_39 (by decide) ?_
          refine lv_goto (tgt := 44) hx hb dX5_secretsPastLife_40 (by decide) ?_
          refine lv_iadd hx hb dX5_secretsPastLife_44 ?_
          refine lv_topi (fun t_11 et_11 => ?_)
          refine lv_istore_n (lv' := [(1, .int t_11), (2, .int k1), (0, .ref (a 0))]) hx hb dX5_secretsPastLife_45 rfl hl (by decide) rfl (fun ls hl => ?_)
          obtain ⟨t_12, et_12⟩ : ∃ y : Int32, y = k1 + 1 := ⟨_, rfl⟩
          refine lv_iinc (v := t_12) (lv' := [(2, .int t_12), (1, .int t_11), (0, .ref (a 0))]) hx hb dX5_secretsPastLife_46 hl (k := 1) rfl (by rw [et_12]; rfl) (by decide) rfl (fun ls hl => ?_)
          refine lv_goto (tgt := 4) hx hb dX5_secretsPastLife_49 (by decide) ?_
          exact ih1 (i1 + 1) t_12 t_11 _ _ _ (by omega) (by omega) (by rw [et_12, ek1]; exact nI_1 i1) hP hS (lv_sub hl [0, 1, 2] rfl)
  exact key1 (12 + 1) 0 0 0 _ _ _ (Nat.zero_le _) (by omega) rfl hP hS (lv_sub hl [0, 1, 2] rfl)
