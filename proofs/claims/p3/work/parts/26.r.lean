set_option maxHeartbeats 4000000 in
set_option maxRecDepth 100000 in
theorem c_X6_begins (l : Launch) (dC : Nat → ClassId) (dI : Nat → Nat → Nat) (cI cZ cS cC cJ : ClassId) (a : Nat → Nat) (v : Nat → Nat → Int32) (sz : Nat) (p0 p1 : Int32) (hD : mDD a) (gn : Nat) (hn : gn < 200000) (hB : rB gn v v) (i0 : Nat) (hi0 : i0 < 12) (ei0 : p0 = nI i0) (o : Int) (hQ : rQ v (fun x => if x = i0 then o else bd (v 52 x))) (ho : (o = 0 ∧ p1 ≠ 0) ∨ (o = 10 ∧ p1 = 4)) : Met l yX6_begins (Cond.code yX6_begins cX6_begins 4 none :: WW) ({ frames := 2, cells := 0, slots := 0, locals := 60 }) (va_Pc [.ref (a 45), .int p0, .int p1] (fun U => U.heap.size = sz ∧ va_P (dC, dI) vwCl (mW cI cZ cS cC cJ a v) U.heap ∧ va_K (dC, dI) vwCl [(cI, .int), (cZ, .boolean), (cS, .object RX3), (cC, .object RX0), (cJ, .long)] U ∧ mN U)) (va_Qv (fun (u : Nat → Nat → Int32) => (rB gn v u) ∧ (rL u) ∧ (u 52 = upd (v 52) i0 p1 ∧ u 58 = v 58 ∧ u 46 = v 46)) (fun (u : Nat → Nat → Int32) (t : State) => va_P (dC, dI) vwCl (mW cI cZ cS cC cJ a u) t.heap) (mA a sz)) 0 0 (mA a sz) := by
  refine Met.ofW (cc := cX6_begins) (maxL := 4) (ret := none) (by decide) rfl ?_
  intro p e s m args below meth c s₁ B hml hv
  obtain ⟨rfl, hsz, hP, hK, hN⟩ := hv
  have hx := B.exec
  have hb := B.bytes
  have hr := B.returns
  have hts := atoms_spec (ws := Cond.code yX6_begins cX6_begins 4 none :: WW) B.pre
  have hown : s.vm.findClass RX6 = some m.cls := findClass_of_methodNamed B.named
  have hlocks := B.notSynchronized
  subst hsz
  have hAc : ∀ c, c < 81 → mA a s.heap.size (a c) := fun c h => Or.inl ⟨c, h, rfl⟩
  have hA : ∀ q : Nat, s.heap.size ≤ q → mA a s.heap.size q := fun q h => Or.inr h
  generalize hAe : mA a s.heap.size = A at hAc hA ⊢
  have hS : va_S A s.heap s.heap [] := va_S.rf
  have hl := lv_entry ([.ref (a 45), .int p0, .int p1]) (n := 4) (Nat.le_of_ble_eq_true rfl)
  rw [lg_entry_eq]
  generalize (lg_sl ([.ref (a 45), .int p0, .int p1]) ++ List.replicate (4 - (lg_sl ([.ref (a 45), .int p0, .int p1])).length) Slot.unset).toArray = ls at hl ⊢
  have hl : lv_has ls 4 [(0, .ref (a 45)), (1, .int p0), (2, .int p1)] := hl
  have ho10 : 0 ≤ o ∧ o ≤ 10 := by rcases ho with ⟨h, _⟩ | ⟨h, _⟩ <;> omega
  refine kt_absQ (fun Q hQ9 => ?_)
  refine lv_aload_n hx hb dX6_begins_0 rfl (lv_at hl 0 rfl) ?_
  refine va_get (D := (dC, dI)) (ci := 6) (v := .ref (a 52)) (C := RX6) (T := TX6) (N := 43) hx hb hts (fun w h => List.mem_cons_of_mem _ (inWX6 w h)) hown hK hP 45 at_45 rfl 15 (by decide) (hts _ (List.mem_cons_of_mem _ kw_t3_56)) (fun _ h9 => h9) rfl dX6_begins_1 ?_
  refine lv_iload_n hx hb dX6_begins_4 rfl (lv_at hl 1 rfl) ?_
  refine lv_iload_n hx hb dX6_begins_5 rfl (lv_at hl 2 rfl) ?_
  refine va_iast hx hb hK hP (mD_of hD hAc) hS 52 0 at_52 rfl (kt_inN ei0 (by omega) (by decide)) dX6_begins_6 (fun H locs hP _ hS => ?_)
  obtain ⟨v_1, ev_1⟩ : ∃ z, z = mU v 52 (upd (v 52) i0 p1) := ⟨_, rfl⟩
  have hP : va_P (dC, dI) vwCl (mW cI cZ cS cC cJ a v_1) H := by rw [ev_1]; exact mW_put hP (by omega) (by rw [ei0, nI_clamp (by omega)]; rfl)
  have hB := hB.put ev_1 (by decide)
  have hQ := hQ.step ev_1
  have hg52 : v_1 52 = upd (v 52) i0 p1 := by rw [ev_1, mU_self]
  refine lv_aload_n hx hb dX6_begins_7 rfl (lv_at hl 0 rfl) ?_
  refine va_get (D := (dC, dI)) (ci := 6) (v := .ref (a 53)) (C := RX6) (T := TX6) (N := 43) hx hb hts (fun w h => List.mem_cons_of_mem _ (inWX6 w h)) hown hK hP 45 at_45 rfl 16 (by decide) (hts _ (List.mem_cons_of_mem _ kw_t3_57)) (fun _ h9 => h9) rfl dX6_begins_8 ?_
  refine lv_iload_n hx hb dX6_begins_11 rfl (lv_at hl 1 rfl) ?_
  refine lv_aload_n hx hb dX6_begins_12 rfl (lv_at hl 0 rfl) ?_
  refine va_get (D := (dC, dI)) (ci := 6) (v := .int (v_1 45 1)) (C := RX6) (T := TX6) (N := 43) hx hb hts (fun w h => List.mem_cons_of_mem _ (inWX6 w h)) hown hK hP 45 at_45 rfl 1 (by decide) (hts _ (List.mem_cons_of_mem _ kw_t3_42)) (fun _ h9 => h9) rfl dX6_begins_13 ?_
  refine lv_topi (fun t_2 et_2 => ?_)
  refine va_iast hx hb hK hP (mD_of hD hAc) hS 53 0 at_53 rfl (kt_inN ei0 (by omega) (by decide)) dX6_begins_16 (fun H locs hP _ hS => ?_)
  obtain ⟨v_3, ev_3⟩ : ∃ z, z = mU v_1 53 (upd (v_1 53) i0 t_2) := ⟨_, rfl⟩
  have hP : va_P (dC, dI) vwCl (mW cI cZ cS cC cJ a v_3) H := by rw [ev_3]; exact mW_put hP (by omega) (by rw [ei0, nI_clamp (by omega)]; rfl)
  have hB := hB.put ev_3 (by decide)
  have hQ := hQ.put ev_3 (by decide)
  refine lv_aload_n hx hb dX6_begins_17 rfl (lv_at hl 0 rfl) ?_
  refine va_get (D := (dC, dI)) (ci := 6) (v := .ref (a 54)) (C := RX6) (T := TX6) (N := 43) hx hb hts (fun w h => List.mem_cons_of_mem _ (inWX6 w h)) hown hK hP 45 at_45 rfl 17 (by decide) (hts _ (List.mem_cons_of_mem _ kw_t3_58)) (fun _ h9 => h9) rfl dX6_begins_18 ?_
  refine lv_iload_n hx hb dX6_begins_21 rfl (lv_at hl 1 rfl) ?_
  refine lv_iconst (v := 0) hx hb dX6_begins_22 (by decide) ?_
  refine va_iast hx hb hK hP (mD_of hD hAc) hS 54 0 at_54 rfl (kt_inN ei0 (by omega) (by decide)) dX6_begins_23 (fun H locs hP _ hS => ?_)
  obtain ⟨v_4, ev_4⟩ : ∃ z, z = mU v_3 54 (upd (v_3 54) i0 0) := ⟨_, rfl⟩
  have hP : va_P (dC, dI) vwCl (mW cI cZ cS cC cJ a v_4) H := by rw [ev_4]; exact mW_put hP (by omega) (by rw [ei0, nI_clamp (by omega)]; rfl)
  have hB := hB.put ev_4 (by decide)
  have hQ := hQ.put ev_4 (by decide)
  refine lv_aload_n hx hb dX6_begins_24 rfl (lv_at hl 0 rfl) ?_
  refine va_get (D := (dC, dI)) (ci := 6) (v := .ref (a 55)) (C := RX6) (T := TX6) (N := 43) hx hb hts (fun w h => List.mem_cons_of_mem _ (inWX6 w h)) hown hK hP 45 at_45 rfl 18 (by decide) (hts _ (List.mem_cons_of_mem _ kw_t3_59)) (fun _ h9 => h9) rfl dX6_begins_25 ?_
  refine lv_iload_n hx hb dX6_begins_28 rfl (lv_at hl 1 rfl) ?_
  refine lv_iconst (v := (-1)) hx hb dX6_begins_29 (by decide) ?_
  refine va_iast hx hb hK hP (mD_of hD hAc) hS 55 0 at_55 rfl (kt_inN ei0 (by omega) (by decide)) dX6_begins_30 (fun H locs hP _ hS => ?_)
  obtain ⟨v_5, ev_5⟩ : ∃ z, z = mU v_4 55 (upd (v_4 55) i0 (-1)) := ⟨_, rfl⟩
  have hP : va_P (dC, dI) vwCl (mW cI cZ cS cC cJ a v_5) H := by rw [ev_5]; exact mW_put hP (by omega) (by rw [ei0, nI_clamp (by omega)]; rfl)
  have hB := hB.put ev_5 (by decide)
  have hQ := hQ.put ev_5 (by decide)
  refine lv_iload_n hx hb dX6_begins_31 rfl (lv_at hl 2 rfl) ?_
  refine lv_iconst (v := 1) hx hb dX6_begins_32 (by decide) ?_
  refine lv_icmp_eq (tgt := 46) hx hb dX6_begins_33 (by decide) (fun c_6 => ?_) (fun c_6 => ?_)
  · refine lv_iconst (v := 0) hx hb dX6_begins_46 (by decide) ?_
    refine lv_istore_n (lv' := [(3, .int 0), (0, .ref (a 45)), (1, .int p0), (2, .int p1)]) hx hb dX6_begins_47 rfl hl (by decide) rfl (fun ls hl => ?_)
    have key1 : ∀ (n i1 : Nat) (k1 : Int32) (w1 : Nat → Nat → Int32) (H : Heap) (locs : List Loc) (ls : Array Slot), i1 ≤ 6 → 6 - i1 < n → k1 = nI i1 → va_P (dC, dI) vwCl (mW cI cZ cS cC cJ a w1) H → va_S A s.heap H locs → lv_has ls 4 [(3, .int k1), (0, .ref (a 45)), (1, .int p0), (2, .int p1)] → rB gn v w1 → (rQ w1 (fun x => if x = i0 then o + (i1 : Int) else bd (v_1 52 x)) ∧ w1 52 = v_1 52 ∧ w1 58 = v 58 ∧ w1 46 = v 46) → W p l e (headSpec (Cond.code yX6_begins cX6_begins 4 none :: WW) ({ frames := 2, cells := 0, slots := 0, locals := 60 })).room s m ([.ref (a 45), .int p0, .int p1] : List Value).toArray below meth c H locs 0 0 Q (F0 m 48 ls []) := by
      intro n
      induction n with
      | zero => intro i k w1 H locs ls h1 h2; exact absurd h2 (by omega)
      | succ n ih1 =>
        intro i1 k1 w1 H locs ls hi1 hin1 ek1 hP hS hl hB hJ1
        refine lv_iload_n hx hb dX6_begins_48 rfl (lv_at hl 0 rfl) ?_
        refine lv_bipush (v := 6) hx hb dX6_begins_49 (by decide) ?_
        refine lv_icmp_ge (tgt := 92) hx hb dX6_begins_51 (by decide) (fun c_7 => ?_) (fun c_7 => ?_)
        · refine lv_iload_n hx hb dX6_begins_92 rfl (lv_at hl 3 rfl) ?_
          refine lv_iconst (v := 2) hx hb dX6_begins_93 (by decide) ?_
          refine lv_icmp_ne (tgt := 131) hx hb dX6_begins_94 (by decide) (fun c_8 => ?_) (fun c_8 => absurd c_8 (by rw [c_6]; decide))
          rw [hQ9]
          exact W.vret hx hb hr (fun t ht hW => ⟨⟨w1, rfl, ⟨hB, (rL.of (g := v_1 52) hJ1.1 (by exact hJ1.2.1) (by rw [show v_1 52 i0 = p1 by rw [hg52]; simp [upd]]; exact bd_ok ho (k := i1) (Or.inl ⟨Or.inl c_6, by omega⟩))), ⟨(Eq.trans (by exact hJ1.2.1) hg52), (by exact hJ1.2.2.1), (by exact hJ1.2.2.2)⟩⟩, kt_heap ht hP⟩, hS.F ht⟩) hS.2.2 dX6_begins_131
        · refine lv_aload_n hx hb dX6_begins_54 rfl (lv_at hl 1 rfl) ?_
          refine va_get (D := (dC, dI)) (ci := 6) (v := .ref (a 48)) (C := RX6) (T := TX6) (N := 43) hx hb hts (fun w h => List.mem_cons_of_mem _ (inWX6 w h)) hown hK hP 45 at_45 rfl 11 (by decide) (hts _ (List.mem_cons_of_mem _ kw_t3_52)) (fun _ h9 => h9) rfl dX6_begins_55 ?_
          refine lv_iload_n hx hb dX6_begins_58 rfl (lv_at hl 2 rfl) ?_
          refine va_iald hx hb hK hP 48 0 at_48 rfl (kt_inN ei0 (by omega) (by decide)) dX6_begins_59 ?_
          refine lv_topi (fun t_9 et_9 => ?_)
          rw [ei0, nI_clamp (by omega)] at et_9
          refine lv_iload_n hx hb dX6_begins_60 rfl (lv_at hl 0 rfl) ?_
          have hFc := mA_free (a := a) hS hA hAc
          refine va_calli (va_runS (As := [.int t_9, .int k1]) (rest := []) ⟨hx, hb, hml, hown, hts⟩ (c_X6_isOf l dC dI cI cZ cS cC cJ a w1 H.size t_9 k1 hD gn (by omega) hB.self) (va_cwS 2 hts (gS (fun w h => List.mem_cons_of_mem _ h) kw_t4_0 kw_t4_1 kw_t1_7 kw_t4_2) rfl rfl rfl (by decide +kernel) ⟨Nat.le_of_ble_eq_true rfl, Nat.le_of_ble_eq_true rfl⟩) ⟨fun av U g mk q => by obtain ⟨q0, q1, qP, qK, qN⟩ := q; exact ⟨q0, q1, qP, va_K.moved (u := U) (U := U.calling g mk av) (Vm.Alike.refl U.vm) qK, mN_same qN⟩, fun U hU hW => ⟨rfl, by rw [hU], by rw [hU]; exact hP, va_K.moved hW.alike hK, mN_warm hW hN⟩⟩ rfl rfl hl.1 rfl (lv_room (Nat.le_of_ble_eq_true rfl)) dX6_begins_61 ⟨Nat.le_of_ble_eq_true rfl, Nat.le_of_ble_eq_true rfl⟩) hS (fun q _ h => hFc q h) hFc (fun r_10 _ t H locs ht hvm hw_10 hP _ _ hS => ?_)
          have hP := kt_heap2 ht hP
          clear ht hFc
          have hP : va_P (dC, dI) vwCl (mW cI cZ cS cC cJ a w1) H := hP
          refine lv_if_eq (tgt := 86) hx hb dX6_begins_64 (by decide) (fun c_11 => ?_) (fun c_11 => ?_)
          · obtain ⟨t_12, et_12⟩ : ∃ y : Int32, y = k1 + 1 := ⟨_, rfl⟩
            refine lv_iinc (v := t_12) (lv' := [(3, .int t_12), (0, .ref (a 45)), (1, .int p0), (2, .int p1)]) hx hb dX6_begins_86 hl (k := 0) rfl (by rw [et_12]; rfl) (by decide) rfl (fun ls hl => ?_)
            refine lv_goto (tgt := 48) hx hb dX6_begins_89 (by decide) ?_
            have hi_13 : i1 < 6 := kt_lt (N := 6) rfl (by decide) ek1 hi1 c_7
            exact ih1 (i1 + 1) t_12 w1 _ _ _ (by omega) (by omega) (by rw [et_12, ek1]; exact nI_1 i1) hP hS (lv_sub hl [0, 1, 2, 3] rfl) hB ⟨rQ.more hJ1.1 (by omega), (by exact hJ1.2.1), (by exact hJ1.2.2.1), (by exact hJ1.2.2.2)⟩
          · refine lv_aload_n hx hb dX6_begins_67 rfl (lv_at hl 1 rfl) ?_
            refine lv_bipush (v := 10) hx hb dX6_begins_68 (by decide) ?_
            refine lv_iload_n hx hb dX6_begins_70 rfl (lv_at hl 0 rfl) ?_
            refine lv_iadd hx hb dX6_begins_71 ?_
            refine lv_topi (fun t_14 et_14 => ?_)
            refine lv_iload_n hx hb dX6_begins_72 rfl (lv_at hl 2 rfl) ?_
            refine lv_iload_n hx hb dX6_begins_73 rfl (lv_at hl 3 rfl) ?_
            refine lv_iconst (v := 1) hx hb dX6_begins_74 (by decide) ?_
            refine lv_icmp_eq (tgt := 82) hx hb dX6_begins_75 (by decide) (fun c_15 => ?_) (fun c_15 => absurd c_15 (by rw [c_6]; decide))
            refine lv_iconst (v := 0) hx hb dX6_begins_82 (by decide) ?_
            have hi_18 : i1 < 6 := kt_lt (N := 6) rfl (by decide) ek1 hi1 c_7
            have hm_17 : t_14 = nI (10 + i1) := by rw [et_14, ek1]; exact nI_add 10 i1
            have hFc := mA_free (a := a) hS hA hAc
            refine va_callv (va_runV (As := [.int t_14, .int p0, .int 0]) (rest := []) ⟨hx, hb, hml, hown, hts⟩ (c_X6_write l dC dI cI cZ cS cC cJ a w1 H.size t_14 p0 0 hD gn (by omega) hB.self (10 + i1) (by omega) hm_17 i0 (by omega) ei0 (fun x => if x = i0 then o + (i1 : Int) else bd (v_1 52 x)) hJ1.1 (bd_many (p := p1) ho10.2 (by omega))) (cwV 3 hts (gV (fun w h => List.mem_cons_of_mem _ h) kw_t4_3 kw_t4_5 kw_s0_20 kw_t1_7 kw_t4_6) rfl rfl rfl (by decide +kernel) ⟨Nat.le_of_ble_eq_true rfl, Nat.le_of_ble_eq_true rfl⟩) ⟨fun av U g mk q => by obtain ⟨q0, q1, qP, qK, qN⟩ := q; exact ⟨q0, q1, qP, va_K.moved (u := U) (U := U.calling g mk av) (Vm.Alike.refl U.vm) qK, mN_same qN⟩, va_recv hK hP (ci := 6) (q0 := 45) rfl at_45, fun U hU hW => ⟨rfl, by rw [hU], by rw [hU]; exact hP, va_K.moved hW.alike hK, mN_warm hW hN⟩⟩ rfl rfl hl.1 rfl (lv_room (Nat.le_of_ble_eq_true rfl)) dX6_begins_83 ⟨Nat.le_of_ble_eq_true rfl, Nat.le_of_ble_eq_true rfl⟩) hS (fun q _ h => hFc q h) hFc (fun v_16 t H locs ht hvm hw_16 hP _ _ hS => ?_)
            have hP := kt_heap2 ht hP
            clear ht hFc
            have hP : va_P (dC, dI) vwCl (mW cI cZ cS cC cJ a v_16) H := hP
            have hB := hB.trans hw_16.1
            have hQ := hw_16.2.1
            obtain ⟨t_19, et_19⟩ : ∃ y : Int32, y = k1 + 1 := ⟨_, rfl⟩
            refine lv_iinc (v := t_19) (lv' := [(3, .int t_19), (0, .ref (a 45)), (1, .int p0), (2, .int p1)]) hx hb dX6_begins_86 hl (k := 0) rfl (by rw [et_19]; rfl) (by decide) rfl (fun ls hl => ?_)
            refine lv_goto (tgt := 48) hx hb dX6_begins_89 (by decide) ?_
            exact ih1 (i1 + 1) t_19 v_16 _ _ _ (by omega) (by omega) (by rw [et_19, ek1]; exact nI_1 i1) hP hS (lv_sub hl [0, 1, 2, 3] rfl) hB ⟨(rQ.inc hQ).more (by omega), (by rw [hw_16.2.2.1]; exact hJ1.2.1), (by rw [hw_16.2.2.2.1]; exact hJ1.2.2.1), (by rw [hw_16.2.2.2.2]; exact hJ1.2.2.2)⟩
    exact key1 (6 + 1) 0 0 v_5 _ _ _ (Nat.zero_le _) (by omega) rfl hP hS (lv_sub hl [0, 1, 2, 3] rfl) hB ⟨hQ.more (by simp), (by rw [ev_5, mU_ne _ _ (by first | decide | omega), ev_4, mU_ne _ _ (by first | decide | omega), ev_3, mU_ne _ _ (by first | decide | omega)]), (by rw [ev_5, mU_ne _ _ (by first | decide | omega), ev_4, mU_ne _ _ (by first | decide | omega), ev_3, mU_ne _ _ (by first | decide | omega), ev_1, mU_ne _ _ (by first | decide | omega)]), (by rw [ev_5, mU_ne _ _ (by first | decide | omega), ev_4, mU_ne _ _ (by first | decide | omega), ev_3, mU_ne _ _ (by first | decide | omega), ev_1, mU_ne _ _ (by first | decide | omega)])⟩
  · refine lv_iload_n hx hb dX6_begins_36 rfl (lv_at hl 2 rfl) ?_
    refine lv_iconst (v := 4) hx hb dX6_begins_37 (by decide) ?_
    refine lv_icmp_eq (tgt := 46) hx hb dX6_begins_38 (by decide) (fun c_20 => ?_) (fun c_20 => ?_)
    · refine lv_iconst (v := 0) hx hb dX6_begins_46 (by decide) ?_
      refine lv_istore_n (lv' := [(3, .int 0), (0, .ref (a 45)), (1, .int p0), (2, .int p1)]) hx hb dX6_begins_47 rfl hl (by decide) rfl (fun ls hl => ?_)
      have key1 : ∀ (n i1 : Nat) (k1 : Int32) (w1 : Nat → Nat → Int32) (H : Heap) (locs : List Loc) (ls : Array Slot), i1 ≤ 6 → 6 - i1 < n → k1 = nI i1 → va_P (dC, dI) vwCl (mW cI cZ cS cC cJ a w1) H → va_S A s.heap H locs → lv_has ls 4 [(3, .int k1), (0, .ref (a 45)), (1, .int p0), (2, .int p1)] → rB gn v w1 → (rQ w1 (fun x => if x = i0 then o + (i1 : Int) else bd (v_1 52 x)) ∧ w1 52 = v_1 52 ∧ w1 58 = v 58 ∧ w1 46 = v 46) → W p l e (headSpec (Cond.code yX6_begins cX6_begins 4 none :: WW) ({ frames := 2, cells := 0, slots := 0, locals := 60 })).room s m ([.ref (a 45), .int p0, .int p1] : List Value).toArray below meth c H locs 0 0 Q (F0 m 48 ls []) := by
        intro n
        induction n with
        | zero => intro i k w1 H locs ls h1 h2; exact absurd h2 (by omega)
        | succ n ih1 =>
          intro i1 k1 w1 H locs ls hi1 hin1 ek1 hP hS hl hB hJ1
          refine lv_iload_n hx hb dX6_begins_48 rfl (lv_at hl 0 rfl) ?_
          refine lv_bipush (v := 6) hx hb dX6_begins_49 (by decide) ?_
          refine lv_icmp_ge (tgt := 92) hx hb dX6_begins_51 (by decide) (fun c_21 => ?_) (fun c_21 => ?_)
          · refine lv_iload_n hx hb dX6_begins_92 rfl (lv_at hl 3 rfl) ?_
            refine lv_iconst (v := 2) hx hb dX6_begins_93 (by decide) ?_
            refine lv_icmp_ne (tgt := 131) hx hb dX6_begins_94 (by decide) (fun c_22 => ?_) (fun c_22 => absurd c_22 (by rw [c_20]; decide))
            rw [hQ9]
            exact W.vret hx hb hr (fun t ht hW => ⟨⟨w1, rfl, ⟨hB, (rL.of (g := v_1 52) hJ1.1 (by exact hJ1.2.1) (by rw [show v_1 52 i0 = p1 by rw [hg52]; simp [upd]]; exact bd_ok ho (k := i1) (Or.inl ⟨Or.inr (Or.inl c_20), by omega⟩))), ⟨(Eq.trans (by exact hJ1.2.1) hg52), (by exact hJ1.2.2.1), (by exact hJ1.2.2.2)⟩⟩, kt_heap ht hP⟩, hS.F ht⟩) hS.2.2 dX6_begins_131
          · refine lv_aload_n hx hb dX6_begins_54 rfl (lv_at hl 1 rfl) ?_
            refine va_get (D := (dC, dI)) (ci := 6) (v := .ref (a 48)) (C := RX6) (T := TX6) (N := 43) hx hb hts (fun w h => List.mem_cons_of_mem _ (inWX6 w h)) hown hK hP 45 at_45 rfl 11 (by decide) (hts _ (List.mem_cons_of_mem _ kw_t3_52)) (fun _ h9 => h9) rfl dX6_begins_55 ?_
            refine lv_iload_n hx hb dX6_begins_58 rfl (lv_at hl 2 rfl) ?_
            refine va_iald hx hb hK hP 48 0 at_48 rfl (kt_inN ei0 (by omega) (by decide)) dX6_begins_59 ?_
            refine lv_topi (fun t_23 et_23 => ?_)
            rw [ei0, nI_clamp (by omega)] at et_23
            refine lv_iload_n hx hb dX6_begins_60 rfl (lv_at hl 0 rfl) ?_
            have hFc := mA_free (a := a) hS hA hAc
            refine va_calli (va_runS (As := [.int t_23, .int k1]) (rest := []) ⟨hx, hb, hml, hown, hts⟩ (c_X6_isOf l dC dI cI cZ cS cC cJ a w1 H.size t_23 k1 hD gn (by omega) hB.self) (va_cwS 2 hts (gS (fun w h => List.mem_cons_of_mem _ h) kw_t4_0 kw_t4_1 kw_t1_7 kw_t4_2) rfl rfl rfl (by decide +kernel) ⟨Nat.le_of_ble_eq_true rfl, Nat.le_of_ble_eq_true rfl⟩) ⟨fun av U g mk q => by obtain ⟨q0, q1, qP, qK, qN⟩ := q; exact ⟨q0, q1, qP, va_K.moved (u := U) (U := U.calling g mk av) (Vm.Alike.refl U.vm) qK, mN_same qN⟩, fun U hU hW => ⟨rfl, by rw [hU], by rw [hU]; exact hP, va_K.moved hW.alike hK, mN_warm hW hN⟩⟩ rfl rfl hl.1 rfl (lv_room (Nat.le_of_ble_eq_true rfl)) dX6_begins_61 ⟨Nat.le_of_ble_eq_true rfl, Nat.le_of_ble_eq_true rfl⟩) hS (fun q _ h => hFc q h) hFc (fun r_24 _ t H locs ht hvm hw_24 hP _ _ hS => ?_)
            have hP := kt_heap2 ht hP
            clear ht hFc
            have hP : va_P (dC, dI) vwCl (mW cI cZ cS cC cJ a w1) H := hP
            refine lv_if_eq (tgt := 86) hx hb dX6_begins_64 (by decide) (fun c_25 => ?_) (fun c_25 => ?_)
            · obtain ⟨t_26, et_26⟩ : ∃ y : Int32, y = k1 + 1 := ⟨_, rfl⟩
              refine lv_iinc (v := t_26) (lv' := [(3, .int t_26), (0, .ref (a 45)), (1, .int p0), (2, .int p1)]) hx hb dX6_begins_86 hl (k := 0) rfl (by rw [et_26]; rfl) (by decide) rfl (fun ls hl => ?_)
              refine lv_goto (tgt := 48) hx hb dX6_begins_89 (by decide) ?_
              have hi_27 : i1 < 6 := kt_lt (N := 6) rfl (by decide) ek1 hi1 c_21
              exact ih1 (i1 + 1) t_26 w1 _ _ _ (by omega) (by omega) (by rw [et_26, ek1]; exact nI_1 i1) hP hS (lv_sub hl [0, 1, 2, 3] rfl) hB ⟨rQ.more hJ1.1 (by omega), (by exact hJ1.2.1), (by exact hJ1.2.2.1), (by exact hJ1.2.2.2)⟩
            · refine lv_aload_n hx hb dX6_begins_67 rfl (lv_at hl 1 rfl) ?_
              refine lv_bipush (v := 10) hx hb dX6_begins_68 (by decide) ?_
              refine lv_iload_n hx hb dX6_begins_70 rfl (lv_at hl 0 rfl) ?_
              refine lv_iadd hx hb dX6_begins_71 ?_
              refine lv_topi (fun t_28 et_28 => ?_)
              refine lv_iload_n hx hb dX6_begins_72 rfl (lv_at hl 2 rfl) ?_
              refine lv_iload_n hx hb dX6_begins_73 rfl (lv_at hl 3 rfl) ?_
              refine lv_iconst (v := 1) hx hb dX6_begins_74 (by decide) ?_
              refine lv_icmp_eq (tgt := 82) hx hb dX6_begins_75 (by decide) (fun c_29 => absurd c_29 (by rw [c_20]; decide)) (fun c_29 => ?_)
              refine lv_iconst (v := 1) hx hb dX6_begins_78 (by decide) ?_
              refine lv_goto (tgt := 83) hx hb dX6_begins_79 (by decide) ?_
              have hi_32 : i1 < 6 := kt_lt (N := 6) rfl (by decide) ek1 hi1 c_21
              have hm_31 : t_28 = nI (10 + i1) := by rw [et_28, ek1]; exact nI_add 10 i1
              have hFc := mA_free (a := a) hS hA hAc
              refine va_callv (va_runV (As := [.int t_28, .int p0, .int 1]) (rest := []) ⟨hx, hb, hml, hown, hts⟩ (c_X6_write l dC dI cI cZ cS cC cJ a w1 H.size t_28 p0 1 hD gn (by omega) hB.self (10 + i1) (by omega) hm_31 i0 (by omega) ei0 (fun x => if x = i0 then o + (i1 : Int) else bd (v_1 52 x)) hJ1.1 (bd_many (p := p1) ho10.2 (by omega))) (cwV 3 hts (gV (fun w h => List.mem_cons_of_mem _ h) kw_t4_3 kw_t4_5 kw_s0_20 kw_t1_7 kw_t4_6) rfl rfl rfl (by decide +kernel) ⟨Nat.le_of_ble_eq_true rfl, Nat.le_of_ble_eq_true rfl⟩) ⟨fun av U g mk q => by obtain ⟨q0, q1, qP, qK, qN⟩ := q; exact ⟨q0, q1, qP, va_K.moved (u := U) (U := U.calling g mk av) (Vm.Alike.refl U.vm) qK, mN_same qN⟩, va_recv hK hP (ci := 6) (q0 := 45) rfl at_45, fun U hU hW => ⟨rfl, by rw [hU], by rw [hU]; exact hP, va_K.moved hW.alike hK, mN_warm hW hN⟩⟩ rfl rfl hl.1 rfl (lv_room (Nat.le_of_ble_eq_true rfl)) dX6_begins_83 ⟨Nat.le_of_ble_eq_true rfl, Nat.le_of_ble_eq_true rfl⟩) hS (fun q _ h => hFc q h) hFc (fun v_30 t H locs ht hvm hw_30 hP _ _ hS => ?_)
              have hP := kt_heap2 ht hP
              clear ht hFc
              have hP : va_P (dC, dI) vwCl (mW cI cZ cS cC cJ a v_30) H := hP
              have hB := hB.trans hw_30.1
              have hQ := hw_30.2.1
              obtain ⟨t_33, et_33⟩ : ∃ y : Int32, y = k1 + 1 := ⟨_, rfl⟩
              refine lv_iinc (v := t_33) (lv' := [(3, .int t_33), (0, .ref (a 45)), (1, .int p0), (2, .int p1)]) hx hb dX6_begins_86 hl (k := 0) rfl (by rw [et_33]; rfl) (by decide) rfl (fun ls hl => ?_)
              refine lv_goto (tgt := 48) hx hb dX6_begins_89 (by decide) ?_
              exact ih1 (i1 + 1) t_33 v_30 _ _ _ (by omega) (by omega) (by rw [et_33, ek1]; exact nI_1 i1) hP hS (lv_sub hl [0, 1, 2, 3] rfl) hB ⟨(rQ.inc hQ).more (by omega), (by rw [hw_30.2.2.1]; exact hJ1.2.1), (by rw [hw_30.2.2.2.1]; exact hJ1.2.2.1), (by rw [hw_30.2.2.2.2]; exact hJ1.2.2.2)⟩
      exact key1 (6 + 1) 0 0 v_5 _ _ _ (Nat.zero_le _) (by omega) rfl hP hS (lv_sub hl [0, 1, 2, 3] rfl) hB ⟨hQ.more (by simp), (by rw [ev_5, mU_ne _ _ (by first | decide | omega), ev_4, mU_ne _ _ (by first | decide | omega), ev_3, mU_ne _ _ (by first | decide | omega)]), (by rw [ev_5, mU_ne _ _ (by first | decide | omega), ev_4, mU_ne _ _ (by first | decide | omega), ev_3, mU_ne _ _ (by first | decide | omega), ev_1, mU_ne _ _ (by first | decide | omega)]), (by rw [ev_5, mU_ne _ _ (by first | decide | omega), ev_4, mU_ne _ _ (by first | decide | omega), ev_3, mU_ne _ _ (by first | decide | omega), ev_1, mU_ne _ _ (by first | decide | omega)])⟩
    · refine lv_iload_n hx hb dX6_begins_41 rfl (lv_at hl 2 rfl) ?_
      refine lv_iconst (v := 5) hx hb dX6_begins_42 (by decide) ?_
      refine lv_icmp_ne (tgt := 92) hx hb dX6_begins_43 (by decide) (fun c_34 => ?_) (fun c_34 => ?_)
      · refine lv_iload_n hx hb dX6_begins_92 rfl (lv_at hl 2 rfl) ?_
        refine lv_iconst (v := 2) hx hb dX6_begins_93 (by decide) ?_
        refine lv_icmp_ne (tgt := 131) hx hb dX6_begins_94 (by decide) (fun c_35 => ?_) (fun c_35 => ?_)
        · rw [hQ9]
          exact W.vret hx hb hr (fun t ht hW => ⟨⟨v_5, rfl, ⟨hB, (rL.of (g := v_1 52) (hQ.more (b := o + ((0 : Nat) : Int)) (by simp)) (by rw [ev_5, mU_ne _ _ (by first | decide | omega), ev_4, mU_ne _ _ (by first | decide | omega), ev_3, mU_ne _ _ (by first | decide | omega)]) (by rw [show v_1 52 i0 = p1 by rw [hg52]; simp [upd]]; exact bd_ok ho (k := 0) (Or.inr (Or.inr rfl)))), ⟨(Eq.trans (by rw [ev_5, mU_ne _ _ (by first | decide | omega), ev_4, mU_ne _ _ (by first | decide | omega), ev_3, mU_ne _ _ (by first | decide | omega)]) hg52), (by rw [ev_5, mU_ne _ _ (by first | decide | omega), ev_4, mU_ne _ _ (by first | decide | omega), ev_3, mU_ne _ _ (by first | decide | omega), ev_1, mU_ne _ _ (by first | decide | omega)]), (by rw [ev_5, mU_ne _ _ (by first | decide | omega), ev_4, mU_ne _ _ (by first | decide | omega), ev_3, mU_ne _ _ (by first | decide | omega), ev_1, mU_ne _ _ (by first | decide | omega)])⟩⟩, kt_heap ht hP⟩, hS.F ht⟩) hS.2.2 dX6_begins_131
        · refine lv_iconst (v := 0) hx hb dX6_begins_97 (by decide) ?_
          refine lv_istore_n (lv' := [(3, .int 0), (0, .ref (a 45)), (1, .int p0), (2, .int p1)]) hx hb dX6_begins_98 rfl hl (by decide) rfl (fun ls hl => ?_)
          have key2 : ∀ (n i2 : Nat) (k2 : Int32) (w2 : Nat → Nat → Int32) (H : Heap) (locs : List Loc) (ls : Array Slot), i2 ≤ 10 → 10 - i2 < n → k2 = nI i2 → va_P (dC, dI) vwCl (mW cI cZ cS cC cJ a w2) H → va_S A s.heap H locs → lv_has ls 4 [(3, .int k2), (0, .ref (a 45)), (1, .int p0), (2, .int p1)] → rB gn v w2 → (rQ w2 (fun x => if x = i0 then o + (i2 : Int) else bd (v_1 52 x)) ∧ w2 52 = v_1 52 ∧ w2 58 = v 58 ∧ w2 46 = v 46) → W p l e (headSpec (Cond.code yX6_begins cX6_begins 4 none :: WW) ({ frames := 2, cells := 0, slots := 0, locals := 60 })).room s m ([.ref (a 45), .int p0, .int p1] : List Value).toArray below meth c H locs 0 0 Q (F0 m 99 ls []) := by
            intro n
            induction n with
            | zero => intro i k w2 H locs ls h1 h2; exact absurd h2 (by omega)
            | succ n ih2 =>
              intro i2 k2 w2 H locs ls hi2 hin2 ek2 hP hS hl hB hJ2
              refine lv_iload_n hx hb dX6_begins_99 rfl (lv_at hl 0 rfl) ?_
              refine lv_bipush (v := 10) hx hb dX6_begins_100 (by decide) ?_
              refine lv_icmp_ge (tgt := 131) hx hb dX6_begins_102 (by decide) (fun c_36 => ?_) (fun c_36 => ?_)
              · rw [hQ9]
                exact W.vret hx hb hr (fun t ht hW => ⟨⟨w2, rfl, ⟨hB, (rL.of (g := v_1 52) hJ2.1 (by exact hJ2.2.1) (by rw [show v_1 52 i0 = p1 by rw [hg52]; simp [upd]]; exact bd_ok ho (k := i2) (Or.inr (Or.inl ⟨c_35, by omega⟩)))), ⟨(Eq.trans (by exact hJ2.2.1) hg52), (by exact hJ2.2.2.1), (by exact hJ2.2.2.2)⟩⟩, kt_heap ht hP⟩, hS.F ht⟩) hS.2.2 dX6_begins_131
              · refine lv_aload_n hx hb dX6_begins_105 rfl (lv_at hl 1 rfl) ?_
                refine va_get (D := (dC, dI)) (ci := 6) (v := .ref (a 47)) (C := RX6) (T := TX6) (N := 43) hx hb hts (fun w h => List.mem_cons_of_mem _ (inWX6 w h)) hown hK hP 45 at_45 rfl 10 (by decide) (hts _ (List.mem_cons_of_mem _ kw_t3_51)) (fun _ h9 => h9) rfl dX6_begins_106 ?_
                refine lv_iload_n hx hb dX6_begins_109 rfl (lv_at hl 2 rfl) ?_
                refine va_iald hx hb hK hP 47 0 at_47 rfl (kt_inN ei0 (by omega) (by decide)) dX6_begins_110 ?_
                refine lv_topi (fun t_37 et_37 => ?_)
                rw [ei0, nI_clamp (by omega)] at et_37
                refine lv_iload_n hx hb dX6_begins_111 rfl (lv_at hl 0 rfl) ?_
                have hFc := mA_free (a := a) hS hA hAc
                refine va_calli (va_runS (As := [.int t_37, .int k2]) (rest := []) ⟨hx, hb, hml, hown, hts⟩ (c_X6_isOf l dC dI cI cZ cS cC cJ a w2 H.size t_37 k2 hD gn (by omega) hB.self) (va_cwS 2 hts (gS (fun w h => List.mem_cons_of_mem _ h) kw_t4_0 kw_t4_1 kw_t1_7 kw_t4_2) rfl rfl rfl (by decide +kernel) ⟨Nat.le_of_ble_eq_true rfl, Nat.le_of_ble_eq_true rfl⟩) ⟨fun av U g mk q => by obtain ⟨q0, q1, qP, qK, qN⟩ := q; exact ⟨q0, q1, qP, va_K.moved (u := U) (U := U.calling g mk av) (Vm.Alike.refl U.vm) qK, mN_same qN⟩, fun U hU hW => ⟨rfl, by rw [hU], by rw [hU]; exact hP, va_K.moved hW.alike hK, mN_warm hW hN⟩⟩ rfl rfl hl.1 rfl (lv_room (Nat.le_of_ble_eq_true rfl)) dX6_begins_112 ⟨Nat.le_of_ble_eq_true rfl, Nat.le_of_ble_eq_true rfl⟩) hS (fun q _ h => hFc q h) hFc (fun r_38 _ t H locs ht hvm hw_38 hP _ _ hS => ?_)
                have hP := kt_heap2 ht hP
                clear ht hFc
                have hP : va_P (dC, dI) vwCl (mW cI cZ cS cC cJ a w2) H := hP
                refine lv_if_eq (tgt := 125) hx hb dX6_begins_115 (by decide) (fun c_39 => ?_) (fun c_39 => ?_)
                · obtain ⟨t_40, et_40⟩ : ∃ y : Int32, y = k2 + 1 := ⟨_, rfl⟩
                  refine lv_iinc (v := t_40) (lv' := [(3, .int t_40), (0, .ref (a 45)), (1, .int p0), (2, .int p1)]) hx hb dX6_begins_125 hl (k := 0) rfl (by rw [et_40]; rfl) (by decide) rfl (fun ls hl => ?_)
                  refine lv_goto (tgt := 99) hx hb dX6_begins_128 (by decide) ?_
                  have hi_41 : i2 < 10 := kt_lt (N := 10) rfl (by decide) ek2 hi2 c_36
                  exact ih2 (i2 + 1) t_40 w2 _ _ _ (by omega) (by omega) (by rw [et_40, ek2]; exact nI_1 i2) hP hS (lv_sub hl [0, 1, 2, 3] rfl) hB ⟨rQ.more hJ2.1 (by omega), (by exact hJ2.2.1), (by exact hJ2.2.2.1), (by exact hJ2.2.2.2)⟩
                · refine lv_aload_n hx hb dX6_begins_118 rfl (lv_at hl 1 rfl) ?_
                  refine lv_iload_n hx hb dX6_begins_119 rfl (lv_at hl 0 rfl) ?_
                  refine lv_iload_n hx hb dX6_begins_120 rfl (lv_at hl 2 rfl) ?_
                  refine lv_iconst (v := 0) hx hb dX6_begins_121 (by decide) ?_
                  have hi_43 : i2 < 10 := kt_lt (N := 10) rfl (by decide) ek2 hi2 c_36
                  have hFc := mA_free (a := a) hS hA hAc
                  refine va_callv (va_runV (As := [.int k2, .int p0, .int 0]) (rest := []) ⟨hx, hb, hml, hown, hts⟩ (c_X6_write l dC dI cI cZ cS cC cJ a w2 H.size k2 p0 0 hD gn (by omega) hB.self i2 (by omega) ek2 i0 (by omega) ei0 (fun x => if x = i0 then o + (i2 : Int) else bd (v_1 52 x)) hJ2.1 (bd_many (p := p1) ho10.2 (by omega))) (cwV 3 hts (gV (fun w h => List.mem_cons_of_mem _ h) kw_t4_3 kw_t4_5 kw_s0_20 kw_t1_7 kw_t4_6) rfl rfl rfl (by decide +kernel) ⟨Nat.le_of_ble_eq_true rfl, Nat.le_of_ble_eq_true rfl⟩) ⟨fun av U g mk q => by obtain ⟨q0, q1, qP, qK, qN⟩ := q; exact ⟨q0, q1, qP, va_K.moved (u := U) (U := U.calling g mk av) (Vm.Alike.refl U.vm) qK, mN_same qN⟩, va_recv hK hP (ci := 6) (q0 := 45) rfl at_45, fun U hU hW => ⟨rfl, by rw [hU], by rw [hU]; exact hP, va_K.moved hW.alike hK, mN_warm hW hN⟩⟩ rfl rfl hl.1 rfl (lv_room (Nat.le_of_ble_eq_true rfl)) dX6_begins_122 ⟨Nat.le_of_ble_eq_true rfl, Nat.le_of_ble_eq_true rfl⟩) hS (fun q _ h => hFc q h) hFc (fun v_42 t H locs ht hvm hw_42 hP _ _ hS => ?_)
                  have hP := kt_heap2 ht hP
                  clear ht hFc
                  have hP : va_P (dC, dI) vwCl (mW cI cZ cS cC cJ a v_42) H := hP
                  have hB := hB.trans hw_42.1
                  have hQ := hw_42.2.1
                  obtain ⟨t_44, et_44⟩ : ∃ y : Int32, y = k2 + 1 := ⟨_, rfl⟩
                  refine lv_iinc (v := t_44) (lv' := [(3, .int t_44), (0, .ref (a 45)), (1, .int p0), (2, .int p1)]) hx hb dX6_begins_125 hl (k := 0) rfl (by rw [et_44]; rfl) (by decide) rfl (fun ls hl => ?_)
                  refine lv_goto (tgt := 99) hx hb dX6_begins_128 (by decide) ?_
                  exact ih2 (i2 + 1) t_44 v_42 _ _ _ (by omega) (by omega) (by rw [et_44, ek2]; exact nI_1 i2) hP hS (lv_sub hl [0, 1, 2, 3] rfl) hB ⟨(rQ.inc hQ).more (by omega), (by rw [hw_42.2.2.1]; exact hJ2.2.1), (by rw [hw_42.2.2.2.1]; exact hJ2.2.2.1), (by rw [hw_42.2.2.2.2]; exact hJ2.2.2.2)⟩
          exact key2 (10 + 1) 0 0 v_5 _ _ _ (Nat.zero_le _) (by omega) rfl hP hS (lv_sub hl [0, 1, 2, 3] rfl) hB ⟨hQ.more (by simp), (by rw [ev_5, mU_ne _ _ (by first | decide | omega), ev_4, mU_ne _ _ (by first | decide | omega), ev_3, mU_ne _ _ (by first | decide | omega)]), (by rw [ev_5, mU_ne _ _ (by first | decide | omega), ev_4, mU_ne _ _ (by first | decide | omega), ev_3, mU_ne _ _ (by first | decide | omega), ev_1, mU_ne _ _ (by first | decide | omega)]), (by rw [ev_5, mU_ne _ _ (by first | decide | omega), ev_4, mU_ne _ _ (by first | decide | omega), ev_3, mU_ne _ _ (by first | decide | omega), ev_1, mU_ne _ _ (by first | decide | omega)])⟩
      · refine lv_iconst (v := 0) hx hb dX6_begins_46 (by decide) ?_
        refine lv_istore_n (lv' := [(3, .int 0), (0, .ref (a 45)), (1, .int p0), (2, .int p1)]) hx hb dX6_begins_47 rfl hl (by decide) rfl (fun ls hl => ?_)
        have key1 : ∀ (n i1 : Nat) (k1 : Int32) (w1 : Nat → Nat → Int32) (H : Heap) (locs : List Loc) (ls : Array Slot), i1 ≤ 6 → 6 - i1 < n → k1 = nI i1 → va_P (dC, dI) vwCl (mW cI cZ cS cC cJ a w1) H → va_S A s.heap H locs → lv_has ls 4 [(3, .int k1), (0, .ref (a 45)), (1, .int p0), (2, .int p1)] → rB gn v w1 → (rQ w1 (fun x => if x = i0 then o + (i1 : Int) else bd (v_1 52 x)) ∧ w1 52 = v_1 52 ∧ w1 58 = v 58 ∧ w1 46 = v 46) → W p l e (headSpec (Cond.code yX6_begins cX6_begins 4 none :: WW) ({ frames := 2, cells := 0, slots := 0, locals := 60 })).room s m ([.ref (a 45), .int p0, .int p1] : List Value).toArray below meth c H locs 0 0 Q (F0 m 48 ls []) := by
          intro n
          induction n with
          | zero => intro i k w1 H locs ls h1 h2; exact absurd h2 (by omega)
          | succ n ih1 =>
            intro i1 k1 w1 H locs ls hi1 hin1 ek1 hP hS hl hB hJ1
            refine lv_iload_n hx hb dX6_begins_48 rfl (lv_at hl 0 rfl) ?_
            refine lv_bipush (v := 6) hx hb dX6_begins_49 (by decide) ?_
            refine lv_icmp_ge (tgt := 92) hx hb dX6_begins_51 (by decide) (fun c_45 => ?_) (fun c_45 => ?_)
            · refine lv_iload_n hx hb dX6_begins_92 rfl (lv_at hl 3 rfl) ?_
              refine lv_iconst (v := 2) hx hb dX6_begins_93 (by decide) ?_
              refine lv_icmp_ne (tgt := 131) hx hb dX6_begins_94 (by decide) (fun c_46 => ?_) (fun c_46 => absurd c_46 (by rw [c_34]; decide))
              rw [hQ9]
              exact W.vret hx hb hr (fun t ht hW => ⟨⟨w1, rfl, ⟨hB, (rL.of (g := v_1 52) hJ1.1 (by exact hJ1.2.1) (by rw [show v_1 52 i0 = p1 by rw [hg52]; simp [upd]]; exact bd_ok ho (k := i1) (Or.inl ⟨Or.inr (Or.inr c_34), by omega⟩))), ⟨(Eq.trans (by exact hJ1.2.1) hg52), (by exact hJ1.2.2.1), (by exact hJ1.2.2.2)⟩⟩, kt_heap ht hP⟩, hS.F ht⟩) hS.2.2 dX6_begins_131
            · refine lv_aload_n hx hb dX6_begins_54 rfl (lv_at hl 1 rfl) ?_
              refine va_get (D := (dC, dI)) (ci := 6) (v := .ref (a 48)) (C := RX6) (T := TX6) (N := 43) hx hb hts (fun w h => List.mem_cons_of_mem _ (inWX6 w h)) hown hK hP 45 at_45 rfl 11 (by decide) (hts _ (List.mem_cons_of_mem _ kw_t3_52)) (fun _ h9 => h9) rfl dX6_begins_55 ?_
              refine lv_iload_n hx hb dX6_begins_58 rfl (lv_at hl 2 rfl) ?_
              refine va_iald hx hb hK hP 48 0 at_48 rfl (kt_inN ei0 (by omega) (by decide)) dX6_begins_59 ?_
              refine lv_topi (fun t_47 et_47 => ?_)
              rw [ei0, nI_clamp (by omega)] at et_47
              refine lv_iload_n hx hb dX6_begins_60 rfl (lv_at hl 0 rfl) ?_
              have hFc := mA_free (a := a) hS hA hAc
              refine va_calli (va_runS (As := [.int t_47, .int k1]) (rest := []) ⟨hx, hb, hml, hown, hts⟩ (c_X6_isOf l dC dI cI cZ cS cC cJ a w1 H.size t_47 k1 hD gn (by omega) hB.self) (va_cwS 2 hts (gS (fun w h => List.mem_cons_of_mem _ h) kw_t4_0 kw_t4_1 kw_t1_7 kw_t4_2) rfl rfl rfl (by decide +kernel) ⟨Nat.le_of_ble_eq_true rfl, Nat.le_of_ble_eq_true rfl⟩) ⟨fun av U g mk q => by obtain ⟨q0, q1, qP, qK, qN⟩ := q; exact ⟨q0, q1, qP, va_K.moved (u := U) (U := U.calling g mk av) (Vm.Alike.refl U.vm) qK, mN_same qN⟩, fun U hU hW => ⟨rfl, by rw [hU], by rw [hU]; exact hP, va_K.moved hW.alike hK, mN_warm hW hN⟩⟩ rfl rfl hl.1 rfl (lv_room (Nat.le_of_ble_eq_true rfl)) dX6_begins_61 ⟨Nat.le_of_ble_eq_true rfl, Nat.le_of_ble_eq_true rfl⟩) hS (fun q _ h => hFc q h) hFc (fun r_48 _ t H locs ht hvm hw_48 hP _ _ hS => ?_)
              have hP := kt_heap2 ht hP
              clear ht hFc
              have hP : va_P (dC, dI) vwCl (mW cI cZ cS cC cJ a w1) H := hP
              refine lv_if_eq (tgt := 86) hx hb dX6_begins_64 (by decide) (fun c_49 => ?_) (fun c_49 => ?_)
              · obtain ⟨t_50, et_50⟩ : ∃ y : Int32, y = k1 + 1 := ⟨_, rfl⟩
                refine lv_iinc (v := t_50) (lv' := [(3, .int t_50), (0, .ref (a 45)), (1, .int p0), (2, .int p1)]) hx hb dX6_begins_86 hl (k := 0) rfl (by rw [et_50]; rfl) (by decide) rfl (fun ls hl => ?_)
                refine lv_goto (tgt := 48) hx hb dX6_begins_89 (by decide) ?_
                have hi_51 : i1 < 6 := kt_lt (N := 6) rfl (by decide) ek1 hi1 c_45
                exact ih1 (i1 + 1) t_50 w1 _ _ _ (by omega) (by omega) (by rw [et_50, ek1]; exact nI_1 i1) hP hS (lv_sub hl [0, 1, 2, 3] rfl) hB ⟨rQ.more hJ1.1 (by omega), (by exact hJ1.2.1), (by exact hJ1.2.2.1), (by exact hJ1.2.2.2)⟩
              · refine lv_aload_n hx hb dX6_begins_67 rfl (lv_at hl 1 rfl) ?_
                refine lv_bipush (v := 10) hx hb dX6_begins_68 (by decide) ?_
                refine lv_iload_n hx hb dX6_begins_70 rfl (lv_at hl 0 rfl) ?_
                refine lv_iadd hx hb dX6_begins_71 ?_
                refine lv_topi (fun t_52 et_52 => ?_)
                refine lv_iload_n hx hb dX6_begins_72 rfl (lv_at hl 2 rfl) ?_
                refine lv_iload_n hx hb dX6_begins_73 rfl (lv_at hl 3 rfl) ?_
                refine lv_iconst (v := 1) hx hb dX6_begins_74 (by decide) ?_
                refine lv_icmp_eq (tgt := 82) hx hb dX6_begins_75 (by decide) (fun c_53 => absurd c_53 (by rw [c_34]; decide)) (fun c_53 => ?_)
                refine lv_iconst (v := 1) hx hb dX6_begins_78 (by decide) ?_
                refine lv_goto (tgt := 83) hx hb dX6_begins_79 (by decide) ?_
                have hi_56 : i1 < 6 := kt_lt (N := 6) rfl (by decide) ek1 hi1 c_45
                have hm_55 : t_52 = nI (10 + i1) := by rw [et_52, ek1]; exact nI_add 10 i1
                have hFc := mA_free (a := a) hS hA hAc
                refine va_callv (va_runV (As := [.int t_52, .int p0, .int 1]) (rest := []) ⟨hx, hb, hml, hown, hts⟩ (c_X6_write l dC dI cI cZ cS cC cJ a w1 H.size t_52 p0 1 hD gn (by omega) hB.self (10 + i1) (by omega) hm_55 i0 (by omega) ei0 (fun x => if x = i0 then o + (i1 : Int) else bd (v_1 52 x)) hJ1.1 (bd_many (p := p1) ho10.2 (by omega))) (cwV 3 hts (gV (fun w h => List.mem_cons_of_mem _ h) kw_t4_3 kw_t4_5 kw_s0_20 kw_t1_7 kw_t4_6) rfl rfl rfl (by decide +kernel) ⟨Nat.le_of_ble_eq_true rfl, Nat.le_of_ble_eq_true rfl⟩) ⟨fun av U g mk q => by obtain ⟨q0, q1, qP, qK, qN⟩ := q; exact ⟨q0, q1, qP, va_K.moved (u := U) (U := U.calling g mk av) (Vm.Alike.refl U.vm) qK, mN_same qN⟩, va_recv hK hP (ci := 6) (q0 := 45) rfl at_45, fun U hU hW => ⟨rfl, by rw [hU], by rw [hU]; exact hP, va_K.moved hW.alike hK, mN_warm hW hN⟩⟩ rfl rfl hl.1 rfl (lv_room (Nat.le_of_ble_eq_true rfl)) dX6_begins_83 ⟨Nat.le_of_ble_eq_true rfl, Nat.le_of_ble_eq_true rfl⟩) hS (fun q _ h => hFc q h) hFc (fun v_54 t H locs ht hvm hw_54 hP _ _ hS => ?_)
                have hP := kt_heap2 ht hP
                clear ht hFc
                have hP : va_P (dC, dI) vwCl (mW cI cZ cS cC cJ a v_54) H := hP
                have hB := hB.trans hw_54.1
                have hQ := hw_54.2.1
                obtain ⟨t_57, et_57⟩ : ∃ y : Int32, y = k1 + 1 := ⟨_, rfl⟩
                refine lv_iinc (v := t_57) (lv' := [(3, .int t_57), (0, .ref (a 45)), (1, .int p0), (2, .int p1)]) hx hb dX6_begins_86 hl (k := 0) rfl (by rw [et_57]; rfl) (by decide) rfl (fun ls hl => ?_)
                refine lv_goto (tgt := 48) hx hb dX6_begins_89 (by decide) ?_
                exact ih1 (i1 + 1) t_57 v_54 _ _ _ (by omega) (by omega) (by rw [et_57, ek1]; exact nI_1 i1) hP hS (lv_sub hl [0, 1, 2, 3] rfl) hB ⟨(rQ.inc hQ).more (by omega), (by rw [hw_54.2.2.1]; exact hJ1.2.1), (by rw [hw_54.2.2.2.1]; exact hJ1.2.2.1), (by rw [hw_54.2.2.2.2]; exact hJ1.2.2.2)⟩
        exact key1 (6 + 1) 0 0 v_5 _ _ _ (Nat.zero_le _) (by omega) rfl hP hS (lv_sub hl [0, 1, 2, 3] rfl) hB ⟨hQ.more (by simp), (by rw [ev_5, mU_ne _ _ (by first | decide | omega), ev_4, mU_ne _ _ (by first | decide | omega), ev_3, mU_ne _ _ (by first | decide | omega)]), (by rw [ev_5, mU_ne _ _ (by first | decide | omega), ev_4, mU_ne _ _ (by first | decide | omega), ev_3, mU_ne _ _ (by first | decide | omega), ev_1, mU_ne _ _ (by first | decide | omega)]), (by rw [ev_5, mU_ne _ _ (by first | decide | omega), ev_4, mU_ne _ _ (by first | decide | omega), ev_3, mU_ne _ _ (by first | decide | omega), ev_1, mU_ne _ _ (by first | decide | omega)])⟩
