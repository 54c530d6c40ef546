set_option maxHeartbeats 4000000 in
set_option maxRecDepth 100000 in
theorem c_X6_isOver (l : Launch) (dC : Nat → ClassId) (dI : Nat → Nat → Nat) (cI cZ cS cC cJ : ClassId) (a : Nat → Nat) (v : Nat → Nat → Int32) (sz : Nat) (p0 : Int32) (hD : mDD a) (gn : Nat) (hn : gn < 200000) (hB : rB gn v v) (i0 : Nat) (hi0 : i0 < 12) (ei0 : p0 = nI i0) : Met l yX6_isOver (Cond.code yX6_isOver cX6_isOver 2 (some .boolean) :: WW) ({ frames := 0, cells := 0, slots := 0, locals := 0 }) (va_Pc [.ref (a 45), .int p0] (fun U => U.heap.size = sz ∧ va_P (dC, dI) vwCl (mW cI cZ cS cC cJ a v) U.heap ∧ va_K (dC, dI) vwCl [(cI, .int), (cZ, .boolean), (cS, .object RX3), (cC, .object RX0), (cJ, .long)] U ∧ mN U)) (va_Qi (fun (r : Int32) (_u : Unit) => (r = 0 ∨ (r = 1 ∧ (v 56 i0).toInt ≤ 0))) (fun (_ : Unit) (t : State) => va_P (dC, dI) vwCl (mW cI cZ cS cC cJ a v) t.heap) (mA a sz)) 0 0 (mA a sz) := by
  refine Met.ofW (cc := cX6_isOver) (maxL := 2) (ret := (some .boolean)) (by decide) rfl ?_
  intro p e s m args below meth c s₁ B hml hv
  obtain ⟨rfl, hsz, hP, hK, hN⟩ := hv
  have hx := B.exec
  have hb := B.bytes
  have hr := B.returns
  have hts := atoms_spec (ws := Cond.code yX6_isOver cX6_isOver 2 (some .boolean) :: WW) B.pre
  have hown : s.vm.findClass RX6 = some m.cls := findClass_of_methodNamed B.named
  have hlocks := B.notSynchronized
  subst hsz
  have hAc : ∀ c, c < 81 → mA a s.heap.size (a c) := fun c h => Or.inl ⟨c, h, rfl⟩
  have hA : ∀ q : Nat, s.heap.size ≤ q → mA a s.heap.size q := fun q h => Or.inr h
  generalize hAe : mA a s.heap.size = A at hAc hA ⊢
  have hS : va_S A s.heap s.heap [] := va_S.rf
  have hl := lv_entry ([.ref (a 45), .int p0]) (n := 2) (Nat.le_of_ble_eq_true rfl)
  rw [lg_entry_eq]
  generalize (lg_sl ([.ref (a 45), .int p0]) ++ List.replicate (2 - (lg_sl ([.ref (a 45), .int p0])).length) Slot.unset).toArray = ls at hl ⊢
  have hl : lv_has ls 2 [(0, .ref (a 45)), (1, .int p0)] := hl
  refine lv_aload_n hx hb dX6_isOver_0 rfl (lv_at hl 0 rfl) ?_
  refine va_get (D := (dC, dI)) (ci := 6) (v := .ref (a 56)) (C := RX6) (T := TX6) (N := 43) hx hb hts (fun w h => List.mem_cons_of_mem _ (inWX6 w h)) hown hK hP 45 at_45 rfl 19 (by decide) (hts _ (List.mem_cons_of_mem _ kw_t3_60)) (fun _ h9 => h9) rfl dX6_isOver_1 ?_
  refine lv_iload_n hx hb dX6_isOver_4 rfl (lv_at hl 1 rfl) ?_
  refine va_iald hx hb hK hP 56 0 at_56 rfl (kt_inN ei0 (by omega) (by decide)) dX6_isOver_5 ?_
  refine lv_topi (fun t_1 et_1 => ?_)
  rw [ei0, nI_clamp (by omega)] at et_1
  refine lv_if_le (tgt := 11) hx hb dX6_isOver_6 (by decide) (fun c_2 => ?_) (fun c_2 => ?_)
  · refine lv_aload_n hx hb dX6_isOver_11 rfl (lv_at hl 0 rfl) ?_
    refine va_get (D := (dC, dI)) (ci := 6) (v := .ref (a 52)) (C := RX6) (T := TX6) (N := 43) hx hb hts (fun w h => List.mem_cons_of_mem _ (inWX6 w h)) hown hK hP 45 at_45 rfl 15 (by decide) (hts _ (List.mem_cons_of_mem _ kw_t3_56)) (fun _ h9 => h9) rfl dX6_isOver_12 ?_
    refine lv_iload_n hx hb dX6_isOver_15 rfl (lv_at hl 1 rfl) ?_
    refine va_iald hx hb hK hP 52 0 at_52 rfl (kt_inN ei0 (by omega) (by decide)) dX6_isOver_16 ?_
    refine lv_topi (fun t_3 et_3 => ?_)
    rw [ei0, nI_clamp (by omega)] at et_3
    refine lv_iconst (v := 3) hx hb dX6_isOver_17 (by decide) ?_
    refine lv_icmp_eq (tgt := 23) hx hb dX6_isOver_18 (by decide) (fun c_4 => ?_) (fun c_4 => ?_)
    · refine lv_aload_n hx hb dX6_isOver_23 rfl (lv_at hl 0 rfl) ?_
      refine va_get (D := (dC, dI)) (ci := 6) (v := .int (v 45 1)) (C := RX6) (T := TX6) (N := 43) hx hb hts (fun w h => List.mem_cons_of_mem _ (inWX6 w h)) hown hK hP 45 at_45 rfl 1 (by decide) (hts _ (List.mem_cons_of_mem _ kw_t3_42)) (fun _ h9 => h9) rfl dX6_isOver_24 ?_
      refine lv_topi (fun t_5 et_5 => ?_)
      refine lv_aload_n hx hb dX6_isOver_27 rfl (lv_at hl 0 rfl) ?_
      refine va_get (D := (dC, dI)) (ci := 6) (v := .ref (a 53)) (C := RX6) (T := TX6) (N := 43) hx hb hts (fun w h => List.mem_cons_of_mem _ (inWX6 w h)) hown hK hP 45 at_45 rfl 16 (by decide) (hts _ (List.mem_cons_of_mem _ kw_t3_57)) (fun _ h9 => h9) rfl dX6_isOver_28 ?_
      refine lv_iload_n hx hb dX6_isOver_31 rfl (lv_at hl 1 rfl) ?_
      refine va_iald hx hb hK hP 53 0 at_53 rfl (kt_inN ei0 (by omega) (by decide)) dX6_isOver_32 ?_
      refine lv_topi (fun t_6 et_6 => ?_)
      rw [ei0, nI_clamp (by omega)] at et_6
      refine lv_isub hx hb dX6_isOver_33 ?_
      refine lv_topi (fun t_7 et_7 => ?_)
      refine lv_aload_n hx hb dX6_isOver_34 rfl (lv_at hl 0 rfl) ?_
      refine va_get (D := (dC, dI)) (ci := 6) (v := .int (v 45 8)) (C := RX6) (T := TX6) (N := 43) hx hb hts (fun w h => List.mem_cons_of_mem _ (inWX6 w h)) hown hK hP 45 at_45 rfl 8 (by decide) (hts _ (List.mem_cons_of_mem _ kw_t3_49)) (fun _ h9 => h9) rfl dX6_isOver_35 ?_
      refine lv_topi (fun t_8 et_8 => ?_)
      refine lv_icmp_lt (tgt := 43) hx hb dX6_isOver_38 (by decide) (fun c_9 => ?_) (fun c_9 => ?_)
      · refine lv_aload_n hx hb dX6_isOver_43 rfl (lv_at hl 0 rfl) ?_
        refine va_get (D := (dC, dI)) (ci := 6) (v := .int (v 45 1)) (C := RX6) (T := TX6) (N := 43) hx hb hts (fun w h => List.mem_cons_of_mem _ (inWX6 w h)) hown hK hP 45 at_45 rfl 1 (by decide) (hts _ (List.mem_cons_of_mem _ kw_t3_42)) (fun _ h9 => h9) rfl dX6_isOver_44 ?_
        refine lv_topi (fun t_10 et_10 => ?_)
        obtain rfl : t_5 = t_10 := et_5.trans et_10.symm
        refine lv_aload_n hx hb dX6_isOver_47 rfl (lv_at hl 0 rfl) ?_
        refine va_get (D := (dC, dI)) (ci := 6) (v := .ref (a 53)) (C := RX6) (T := TX6) (N := 43) hx hb hts (fun w h => List.mem_cons_of_mem _ (inWX6 w h)) hown hK hP 45 at_45 rfl 16 (by decide) (hts _ (List.mem_cons_of_mem _ kw_t3_57)) (fun _ h9 => h9) rfl dX6_isOver_48 ?_
        refine lv_iload_n hx hb dX6_isOver_51 rfl (lv_at hl 1 rfl) ?_
        refine va_iald hx hb hK hP 53 0 at_53 rfl (kt_inN ei0 (by omega) (by decide)) dX6_isOver_52 ?_
        refine lv_topi (fun t_11 et_11 => ?_)
        rw [ei0, nI_clamp (by omega)] at et_11
        obtain rfl : t_6 = t_11 := et_6.trans et_11.symm
        refine lv_isub hx hb dX6_isOver_53 ?_
        refine lv_topi (fun t_12 et_12 => ?_)
        refine lv_aload_n hx hb dX6_isOver_54 rfl (lv_at hl 0 rfl) ?_
        refine va_get (D := (dC, dI)) (ci := 6) (v := .int (v 45 7)) (C := RX6) (T := TX6) (N := 43) hx hb hts (fun w h => List.mem_cons_of_mem _ (inWX6 w h)) hown hK hP 45 at_45 rfl 7 (by decide) (hts _ (List.mem_cons_of_mem _ kw_t3_48)) (fun _ h9 => h9) rfl dX6_isOver_55 ?_
        refine lv_topi (fun t_13 et_13 => ?_)
        refine lv_icmp_lt (tgt := 93) hx hb dX6_isOver_58 (by decide) (fun c_14 => ?_) (fun c_14 => ?_)
        · refine lv_iconst (v := 0) hx hb dX6_isOver_93 (by decide) ?_
          exact W.zret (v := 0) (ty := .boolean) hx hb hr rfl (fun t ht hW => ⟨⟨0, (), rfl, (Or.inl rfl), kt_heap ht hP⟩, hS.F ht⟩) hS.2.2 dX6_isOver_94
        · refine lv_aload_n hx hb dX6_isOver_61 rfl (lv_at hl 0 rfl) ?_
          refine va_get (D := (dC, dI)) (ci := 6) (v := .ref (a 55)) (C := RX6) (T := TX6) (N := 43) hx hb hts (fun w h => List.mem_cons_of_mem _ (inWX6 w h)) hown hK hP 45 at_45 rfl 18 (by decide) (hts _ (List.mem_cons_of_mem _ kw_t3_59)) (fun _ h9 => h9) rfl dX6_isOver_62 ?_
          refine lv_iload_n hx hb dX6_isOver_65 rfl (lv_at hl 1 rfl) ?_
          refine va_iald hx hb hK hP 55 0 at_55 rfl (kt_inN ei0 (by omega) (by decide)) dX6_isOver_66 ?_
          refine lv_topi (fun t_15 et_15 => ?_)
          rw [ei0, nI_clamp (by omega)] at et_15
          refine lv_iconst (v := (-1)) hx hb dX6_isOver_67 (by decide) ?_
          refine lv_icmp_eq (tgt := 89) hx hb dX6_isOver_68 (by decide) (fun c_16 => ?_) (fun c_16 => ?_)
          · refine lv_iconst (v := 1) hx hb dX6_isOver_89 (by decide) ?_
            refine lv_goto (tgt := 94) hx hb dX6_isOver_90 (by decide) ?_
            exact W.zret (v := 1) (ty := .boolean) hx hb hr rfl (fun t ht hW => ⟨⟨1, (), rfl, (Or.inr ⟨rfl, by rw [← et_1]; have z := c_2; simp only [Int32.le_iff_toInt_le, L0] at z; exact z⟩), kt_heap ht hP⟩, hS.F ht⟩) hS.2.2 dX6_isOver_94
          · refine lv_aload_n hx hb dX6_isOver_71 rfl (lv_at hl 0 rfl) ?_
            refine va_get (D := (dC, dI)) (ci := 6) (v := .int (v 45 1)) (C := RX6) (T := TX6) (N := 43) hx hb hts (fun w h => List.mem_cons_of_mem _ (inWX6 w h)) hown hK hP 45 at_45 rfl 1 (by decide) (hts _ (List.mem_cons_of_mem _ kw_t3_42)) (fun _ h9 => h9) rfl dX6_isOver_72 ?_
            refine lv_topi (fun t_17 et_17 => ?_)
            obtain rfl : t_5 = t_17 := et_5.trans et_17.symm
            refine lv_aload_n hx hb dX6_isOver_75 rfl (lv_at hl 0 rfl) ?_
            refine va_get (D := (dC, dI)) (ci := 6) (v := .ref (a 55)) (C := RX6) (T := TX6) (N := 43) hx hb hts (fun w h => List.mem_cons_of_mem _ (inWX6 w h)) hown hK hP 45 at_45 rfl 18 (by decide) (hts _ (List.mem_cons_of_mem _ kw_t3_59)) (fun _ h9 => h9) rfl dX6_isOver_76 ?_
            refine lv_iload_n hx hb dX6_isOver_79 rfl (lv_at hl 1 rfl) ?_
            refine va_iald hx hb hK hP 55 0 at_55 rfl (kt_inN ei0 (by omega) (by decide)) dX6_isOver_80 ?_
            refine lv_topi (fun t_18 et_18 => ?_)
            rw [ei0, nI_clamp (by omega)] at et_18
            obtain rfl : t_15 = t_18 := et_15.trans et_18.symm
            refine lv_isub hx hb dX6_isOver_81 ?_
            refine lv_topi (fun t_19 et_19 => ?_)
            refine lv_aload_n hx hb dX6_isOver_82 rfl (lv_at hl 0 rfl) ?_
            refine va_get (D := (dC, dI)) (ci := 6) (v := .int (v 45 7)) (C := RX6) (T := TX6) (N := 43) hx hb hts (fun w h => List.mem_cons_of_mem _ (inWX6 w h)) hown hK hP 45 at_45 rfl 7 (by decide) (hts _ (List.mem_cons_of_mem _ kw_t3_48)) (fun _ h9 => h9) rfl dX6_isOver_83 ?_
            refine lv_topi (fun t_20 et_20 => ?_)
            obtain rfl : t_13 = t_20 := et_13.trans et_20.symm
            refine lv_icmp_lt (tgt := 93) hx hb dX6_isOver_86 (by decide) (fun c_21 => ?_) (fun c_21 => ?_)
            · refine lv_iconst (v := 0) hx hb dX6_isOver_93 (by decide) ?_
              exact W.zret (v := 0) (ty := .boolean) hx hb hr rfl (fun t ht hW => ⟨⟨0, (), rfl, (Or.inl rfl), kt_heap ht hP⟩, hS.F ht⟩) hS.2.2 dX6_isOver_94
            · refine lv_iconst (v := 1) hx hb dX6_isOver_89 (by decide) ?_
              refine lv_goto (tgt := 94) hx hb dX6_isOver_90 (by decide) ?_
              exact W.zret (v := 1) (ty := .boolean) hx hb hr rfl (fun t ht hW => ⟨⟨1, (), rfl, (Or.inr ⟨rfl, by rw [← et_1]; have z := c_2; simp only [Int32.le_iff_toInt_le, L0] at z; exact z⟩), kt_heap ht hP⟩, hS.F ht⟩) hS.2.2 dX6_isOver_94
      · refine lv_iconst (v := 1) hx hb dX6_isOver_41 (by decide) ?_
        exact W.zret (v := 1) (ty := .boolean) hx hb hr rfl (fun t ht hW => ⟨⟨1, (), rfl, (Or.inr ⟨rfl, by rw [← et_1]; have z := c_2; simp only [Int32.le_iff_toInt_le, L0] at z; exact z⟩), kt_heap ht hP⟩, hS.F ht⟩) hS.2.2 dX6_isOver_42
    · refine lv_iconst (v := 1) hx hb dX6_isOver_21 (by decide) ?_
      exact W.zret (v := 1) (ty := .boolean) hx hb hr rfl (fun t ht hW => ⟨⟨1, (), rfl, (Or.inr ⟨rfl, by rw [← et_1]; have z := c_2; simp only [Int32.le_iff_toInt_le, L0] at z; exact z⟩), kt_heap ht hP⟩, hS.F ht⟩) hS.2.2 dX6_isOver_22
  · refine lv_iconst (v := 0) hx hb dX6_isOver_9 (by decide) ?_
    exact W.zret (v := 0) (ty := .boolean) hx hb hr rfl (fun t ht hW => ⟨⟨0, (), rfl, (Or.inl rfl), kt_heap ht hP⟩, hS.F ht⟩) hS.2.2 dX6_isOver_10

set_option maxHeartbeats 4000000 in
set_option maxRecDepth 100000 in
theorem c_X6_next (l : Launch) (dC : Nat → ClassId) (dI : Nat → Nat → Nat) (cI cZ cS cC cJ : ClassId) (a : Nat → Nat) (v : Nat → Nat → Int32) (sz : Nat) (p0 : Int32) (hD : mDD a) (gn : Nat) (hn : gn < 200000) (hB : rB gn v v) (i0 : Nat) (hi0 : i0 < 12) (ei0 : p0 = nI i0) : Met l yX6_next (Cond.code yX6_next cX6_next 2 (some .int) :: WW) ({ frames := 0, cells := 0, slots := 0, locals := 0 }) (va_Pc [.ref (a 45), .int p0] (fun U => U.heap.size = sz ∧ va_P (dC, dI) vwCl (mW cI cZ cS cC cJ a v) U.heap ∧ va_K (dC, dI) vwCl [(cI, .int), (cZ, .boolean), (cS, .object RX3), (cC, .object RX0), (cJ, .long)] U ∧ mN U)) (va_Qi (fun (r : Int32) (_u : Unit) => (v 52 i0 ≠ 0 → rk (v 58 i0) r < rk (v 58 i0) (v 52 i0))) (fun (_ : Unit) (t : State) => va_P (dC, dI) vwCl (mW cI cZ cS cC cJ a v) t.heap) (mA a sz)) 0 0 (mA a sz) := by
  refine Met.ofW (cc := cX6_next) (maxL := 2) (ret := (some .int)) (by decide) rfl ?_
  intro p e s m args below meth c s₁ B hml hv
  obtain ⟨rfl, hsz, hP, hK, hN⟩ := hv
  have hx := B.exec
  have hb := B.bytes
  have hr := B.returns
  have hts := atoms_spec (ws := Cond.code yX6_next cX6_next 2 (some .int) :: WW) B.pre
  have hown : s.vm.findClass RX6 = some m.cls := findClass_of_methodNamed B.named
  have hlocks := B.notSynchronized
  subst hsz
  have hAc : ∀ c, c < 81 → mA a s.heap.size (a c) := fun c h => Or.inl ⟨c, h, rfl⟩
  have hA : ∀ q : Nat, s.heap.size ≤ q → mA a s.heap.size q := fun q h => Or.inr h
  generalize hAe : mA a s.heap.size = A at hAc hA ⊢
  have hS : va_S A s.heap s.heap [] := va_S.rf
  have hl := lv_entry ([.ref (a 45), .int p0]) (n := 2) (Nat.le_of_ble_eq_true rfl)
  rw [lg_entry_eq]
  generalize (lg_sl ([.ref (a 45), .int p0]) ++ List.replicate (2 - (lg_sl ([.ref (a 45), .int p0])).length) Slot.unset).toArray = ls at hl ⊢
  have hl : lv_has ls 2 [(0, .ref (a 45)), (1, .int p0)] := hl
  refine lv_aload_n hx hb dX6_next_0 rfl (lv_at hl 0 rfl) ?_
  refine va_get (D := (dC, dI)) (ci := 6) (v := .ref (a 52)) (C := RX6) (T := TX6) (N := 43) hx hb hts (fun w h => List.mem_cons_of_mem _ (inWX6 w h)) hown hK hP 45 at_45 rfl 15 (by decide) (hts _ (List.mem_cons_of_mem _ kw_t3_56)) (fun _ h9 => h9) rfl dX6_next_1 ?_
  refine lv_iload_n hx hb dX6_next_4 rfl (lv_at hl 1 rfl) ?_
  refine va_iald hx hb hK hP 52 0 at_52 rfl (kt_inN ei0 (by omega) (by decide)) dX6_next_5 ?_
  refine lv_topi (fun t_1 et_1 => ?_)
  rw [ei0, nI_clamp (by omega)] at et_1
  rcases kt_sw_1_4 t_1 with g_2 | g_2 | g_2 | g_2 | g_2
  · refine lv_tableIn (off := 30) (tgt := 36) hx hb dX6_next_6 (by rw [g_2]; decide) (by rw [g_2]; decide) (by rw [g_2]; decide) (by decide) ?_
    refine lv_aload_n hx hb dX6_next_36 rfl (lv_at hl 0 rfl) ?_
    refine va_get (D := (dC, dI)) (ci := 6) (v := .ref (a 58)) (C := RX6) (T := TX6) (N := 43) hx hb hts (fun w h => List.mem_cons_of_mem _ (inWX6 w h)) hown hK hP 45 at_45 rfl 21 (by decide) (hts _ (List.mem_cons_of_mem _ kw_t3_62)) (fun _ h9 => h9) rfl dX6_next_37 ?_
    refine lv_iload_n hx hb dX6_next_40 rfl (lv_at hl 1 rfl) ?_
    refine va_zald hx hb hK hP 58 1 at_58 rfl (kt_inN ei0 (by omega) (by decide)) dX6_next_41 ?_
    refine lv_topi (fun t_3 et_3 => ?_)
    rw [ei0, nI_clamp (by omega)] at et_3
    refine lv_if_eq (tgt := 49) hx hb dX6_next_42 (by decide) (fun c_4 => ?_) (fun c_4 => ?_)
    · refine lv_iconst (v := 2) hx hb dX6_next_49 (by decide) ?_
      exact W.iret (v := 2) hx hb hr (fun t ht hW => ⟨⟨2, (), rfl, (fun h0 => rk_lt h0 (Or.inr (Or.inl ⟨(et_1.symm.trans g_2), (et_3.symm.trans c_4), rfl⟩))), kt_heap ht hP⟩, hS.F ht⟩) hS.2.2 dX6_next_50
    · refine lv_iconst (v := 4) hx hb dX6_next_45 (by decide) ?_
      refine lv_goto (tgt := 50) hx hb dX6_next_46 (by decide) ?_
      exact W.iret (v := 4) hx hb hr (fun t ht hW => ⟨⟨4, (), rfl, (fun h0 => rk_lt h0 (Or.inl ⟨(et_1.symm.trans g_2), (fun z => c_4 (et_3.trans z)), rfl⟩)), kt_heap ht hP⟩, hS.F ht⟩) hS.2.2 dX6_next_50
  · refine lv_tableIn (off := 45) (tgt := 51) hx hb dX6_next_6 (by rw [g_2]; decide) (by rw [g_2]; decide) (by rw [g_2]; decide) (by decide) ?_
    refine lv_aload_n hx hb dX6_next_51 rfl (lv_at hl 0 rfl) ?_
    refine va_get (D := (dC, dI)) (ci := 6) (v := .ref (a 46)) (C := RX6) (T := TX6) (N := 43) hx hb hts (fun w h => List.mem_cons_of_mem _ (inWX6 w h)) hown hK hP 45 at_45 rfl 9 (by decide) (hts _ (List.mem_cons_of_mem _ kw_t3_50)) (fun _ h9 => h9) rfl dX6_next_52 ?_
    refine lv_iload_n hx hb dX6_next_55 rfl (lv_at hl 1 rfl) ?_
    refine va_iald hx hb hK hP 46 0 at_46 rfl (kt_inN ei0 (by omega) (by decide)) dX6_next_56 ?_
    refine lv_topi (fun t_5 et_5 => ?_)
    rw [ei0, nI_clamp (by omega)] at et_5
    refine lv_if_ne (tgt := 73) hx hb dX6_next_57 (by decide) (fun c_6 => ?_) (fun c_6 => ?_)
    · refine lv_iconst (v := 0) hx hb dX6_next_73 (by decide) ?_
      exact W.iret (v := 0) hx hb hr (fun t ht hW => ⟨⟨0, (), rfl, (fun h0 => rk_lt h0 (Or.inr (Or.inr (Or.inl ⟨(et_1.symm.trans g_2), rfl⟩)))), kt_heap ht hP⟩, hS.F ht⟩) hS.2.2 dX6_next_74
    · refine lv_aload_n hx hb dX6_next_60 rfl (lv_at hl 0 rfl) ?_
      refine va_get (D := (dC, dI)) (ci := 6) (v := .ref (a 58)) (C := RX6) (T := TX6) (N := 43) hx hb hts (fun w h => List.mem_cons_of_mem _ (inWX6 w h)) hown hK hP 45 at_45 rfl 21 (by decide) (hts _ (List.mem_cons_of_mem _ kw_t3_62)) (fun _ h9 => h9) rfl dX6_next_61 ?_
      refine lv_iload_n hx hb dX6_next_64 rfl (lv_at hl 1 rfl) ?_
      refine va_zald hx hb hK hP 58 1 at_58 rfl (kt_inN ei0 (by omega) (by decide)) dX6_next_65 ?_
      refine lv_topi (fun t_7 et_7 => ?_)
      rw [ei0, nI_clamp (by omega)] at et_7
      refine lv_if_ne (tgt := 73) hx hb dX6_next_66 (by decide) (fun c_8 => ?_) (fun c_8 => ?_)
      · refine lv_iconst (v := 0) hx hb dX6_next_73 (by decide) ?_
        exact W.iret (v := 0) hx hb hr (fun t ht hW => ⟨⟨0, (), rfl, (fun h0 => rk_lt h0 (Or.inr (Or.inr (Or.inl ⟨(et_1.symm.trans g_2), rfl⟩)))), kt_heap ht hP⟩, hS.F ht⟩) hS.2.2 dX6_next_74
      · refine lv_iconst (v := 3) hx hb dX6_next_69 (by decide) ?_
        refine lv_goto (tgt := 74) hx hb dX6_next_70 (by decide) ?_
        exact W.iret (v := 3) hx hb hr (fun t ht hW => ⟨⟨3, (), rfl, (fun h0 => rk_lt h0 (Or.inr (Or.inr (Or.inr (Or.inl ⟨(et_1.symm.trans g_2), (et_7.symm.trans c_8), rfl⟩))))), kt_heap ht hP⟩, hS.F ht⟩) hS.2.2 dX6_next_74
  · refine lv_tableIn (off := 69) (tgt := 75) hx hb dX6_next_6 (by rw [g_2]; decide) (by rw [g_2]; decide) (by rw [g_2]; decide) (by decide) ?_
    refine lv_iconst (v := 4) hx hb dX6_next_75 (by decide) ?_
    exact W.iret (v := 4) hx hb hr (fun t ht hW => ⟨⟨4, (), rfl, (fun h0 => rk_lt h0 (Or.inr (Or.inr (Or.inr (Or.inr (Or.inl ⟨(et_1.symm.trans g_2), rfl⟩)))))), kt_heap ht hP⟩, hS.F ht⟩) hS.2.2 dX6_next_76
  · refine lv_tableIn (off := 71) (tgt := 77) hx hb dX6_next_6 (by rw [g_2]; decide) (by rw [g_2]; decide) (by rw [g_2]; decide) (by decide) ?_
    refine lv_aload_n hx hb dX6_next_77 rfl (lv_at hl 0 rfl) ?_
    refine va_get (D := (dC, dI)) (ci := 6) (v := .ref (a 58)) (C := RX6) (T := TX6) (N := 43) hx hb hts (fun w h => List.mem_cons_of_mem _ (inWX6 w h)) hown hK hP 45 at_45 rfl 21 (by decide) (hts _ (List.mem_cons_of_mem _ kw_t3_62)) (fun _ h9 => h9) rfl dX6_next_78 ?_
    refine lv_iload_n hx hb dX6_next_81 rfl (lv_at hl 1 rfl) ?_
    refine va_zald hx hb hK hP 58 1 at_58 rfl (kt_inN ei0 (by omega) (by decide)) dX6_next_82 ?_
    refine lv_topi (fun t_9 et_9 => ?_)
    rw [ei0, nI_clamp (by omega)] at et_9
    refine lv_if_eq (tgt := 90) hx hb dX6_next_83 (by decide) (fun c_10 => ?_) (fun c_10 => ?_)
    · refine lv_iconst (v := 0) hx hb dX6_next_90 (by decide) ?_
      exact W.iret (v := 0) hx hb hr (fun t ht hW => ⟨⟨0, (), rfl, (fun h0 => rk_lt h0 (Or.inr (Or.inr (Or.inr (Or.inr (Or.inr (Or.inr (Or.inl ⟨(et_1.symm.trans g_2), rfl⟩)))))))), kt_heap ht hP⟩, hS.F ht⟩) hS.2.2 dX6_next_91
    · refine lv_iconst (v := 2) hx hb dX6_next_86 (by decide) ?_
      refine lv_goto (tgt := 91) hx hb dX6_next_87 (by decide) ?_
      exact W.iret (v := 2) hx hb hr (fun t ht hW => ⟨⟨2, (), rfl, (fun h0 => rk_lt h0 (Or.inr (Or.inr (Or.inr (Or.inr (Or.inr (Or.inl ⟨(et_1.symm.trans g_2), (fun z => c_10 (et_9.trans z)), rfl⟩))))))), kt_heap ht hP⟩, hS.F ht⟩) hS.2.2 dX6_next_91
  · refine lv_tableOut (tgt := 92) hx hb dX6_next_6 g_2 (by decide) ?_
    refine lv_iconst (v := 2) hx hb dX6_next_92 (by decide) ?_
    exact W.iret (v := 2) hx hb hr (fun t ht hW => ⟨⟨2, (), rfl, (fun h0 => rk_lt h0 (Or.inr (Or.inr (Or.inr (Or.inr (Or.inr (Or.inr (Or.inr ⟨by rw [← et_1]; exact g_2, rfl⟩)))))))), kt_heap ht hP⟩, hS.F ht⟩) hS.2.2 dX6_next_93

set_option maxHeartbeats 4000000 in
set_option maxRecDepth 100000 in
theorem c_X6_isGood (l : Launch) (dC : Nat → ClassId) (dI : Nat → Nat → Nat) (cI cZ cS cC cJ : ClassId) (a : Nat → Nat) (v : Nat → Nat → Int32) (sz : Nat) (p0 p1 p2 : Int32) (hD : mDD a) (gn : Nat) (hn : gn < 200000) (hB : rB gn v v) (i0 : Nat) (hi0 : i0 < 12) (ei0 : p0 = nI i0) (i1 : Nat) (hi1 : i1 < 6) (ei1 : p1 = nI i1) : Met l yX6_isGood (Cond.code yX6_isGood cX6_isGood 4 (some .boolean) :: WW) ({ frames := 0, cells := 0, slots := 0, locals := 0 }) (va_Pc [.ref (a 45), .int p0, .int p1, .int p2] (fun U => U.heap.size = sz ∧ va_P (dC, dI) vwCl (mW cI cZ cS cC cJ a v) U.heap ∧ va_K (dC, dI) vwCl [(cI, .int), (cZ, .boolean), (cS, .object RX3), (cC, .object RX0), (cJ, .long)] U ∧ mN U)) (va_Qi (fun (r : Int32) (_u : Unit) => (r = 0 ∨ r = 1)) (fun (_ : Unit) (t : State) => va_P (dC, dI) vwCl (mW cI cZ cS cC cJ a v) t.heap) (mA a sz)) 0 0 (mA a sz) := by
  refine Met.ofW (cc := cX6_isGood) (maxL := 4) (ret := (some .boolean)) (by decide) rfl ?_
  intro p e s m args below meth c s₁ B hml hv
  obtain ⟨rfl, hsz, hP, hK, hN⟩ := hv
  have hx := B.exec
  have hb := B.bytes
  have hr := B.returns
  have hts := atoms_spec (ws := Cond.code yX6_isGood cX6_isGood 4 (some .boolean) :: WW) B.pre
  have hown : s.vm.findClass RX6 = some m.cls := findClass_of_methodNamed B.named
  have hlocks := B.notSynchronized
  subst hsz
  have hAc : ∀ c, c < 81 → mA a s.heap.size (a c) := fun c h => Or.inl ⟨c, h, rfl⟩
  have hA : ∀ q : Nat, s.heap.size ≤ q → mA a s.heap.size q := fun q h => Or.inr h
  generalize hAe : mA a s.heap.size = A at hAc hA ⊢
  have hS : va_S A s.heap s.heap [] := va_S.rf
  have hl := lv_entry ([.ref (a 45), .int p0, .int p1, .int p2]) (n := 4) (Nat.le_of_ble_eq_true rfl)
  rw [lg_entry_eq]
  generalize (lg_sl ([.ref (a 45), .int p0, .int p1, .int p2]) ++ List.replicate (4 - (lg_sl ([.ref (a 45), .int p0, .int p1, .int p2])).length) Slot.unset).toArray = ls at hl ⊢
  have hl : lv_has ls 4 [(0, .ref (a 45)), (1, .int p0), (2, .int p1), (3, .int p2)] := hl
  refine lv_aload_n hx hb dX6_isGood_0 rfl (lv_at hl 0 rfl) ?_
  refine va_get (D := (dC, dI)) (ci := 6) (v := .ref (a 62)) (C := RX6) (T := TX6) (N := 43) hx hb hts (fun w h => List.mem_cons_of_mem _ (inWX6 w h)) hown hK hP 45 at_45 rfl 25 (by decide) (hts _ (List.mem_cons_of_mem _ kw_t3_66)) (fun _ h9 => h9) rfl dX6_isGood_1 ?_
  refine lv_bipush (v := 6) hx hb dX6_isGood_4 (by decide) ?_
  refine lv_iload_n hx hb dX6_isGood_6 rfl (lv_at hl 1 rfl) ?_
  refine lv_imul hx hb dX6_isGood_7 ?_
  refine lv_topi (fun t_1 et_1 => ?_)
  refine lv_iload_n hx hb dX6_isGood_8 rfl (lv_at hl 2 rfl) ?_
  refine lv_iadd hx hb dX6_isGood_9 ?_
  refine lv_topi (fun t_2 et_2 => ?_)
  have hm_3 : t_2 = nI (6 * i0 + i1) := kt_mad (C := 6) rfl ei0 ei1 et_1 et_2
  refine va_iald hx hb hK hP 62 0 at_62 rfl (kt_inN hm_3 (by omega) (by decide)) dX6_isGood_10 ?_
  refine lv_topi (fun t_4 et_4 => ?_)
  rw [hm_3, nI_clamp (by omega)] at et_4
  refine lv_iload_n hx hb dX6_isGood_11 rfl (lv_at hl 3 rfl) ?_
  refine lv_icmp_eq (tgt := 30) hx hb dX6_isGood_12 (by decide) (fun c_5 => ?_) (fun c_5 => ?_)
  · refine lv_iconst (v := 1) hx hb dX6_isGood_30 (by decide) ?_
    refine lv_goto (tgt := 35) hx hb dX6_isGood_31 (by decide) ?_
    exact W.zret (v := 1) (ty := .boolean) hx hb hr rfl (fun t ht hW => ⟨⟨1, (), rfl, (Or.inr rfl), kt_heap ht hP⟩, hS.F ht⟩) hS.2.2 dX6_isGood_35
  · refine lv_aload_n hx hb dX6_isGood_15 rfl (lv_at hl 0 rfl) ?_
    refine va_get (D := (dC, dI)) (ci := 6) (v := .ref (a 63)) (C := RX6) (T := TX6) (N := 43) hx hb hts (fun w h => List.mem_cons_of_mem _ (inWX6 w h)) hown hK hP 45 at_45 rfl 26 (by decide) (hts _ (List.mem_cons_of_mem _ kw_t3_67)) (fun _ h9 => h9) rfl dX6_isGood_16 ?_
    refine lv_bipush (v := 6) hx hb dX6_isGood_19 (by decide) ?_
    refine lv_iload_n hx hb dX6_isGood_21 rfl (lv_at hl 1 rfl) ?_
    refine lv_imul hx hb dX6_isGood_22 ?_
    refine lv_topi (fun t_6 et_6 => ?_)
    refine lv_iload_n hx hb dX6_isGood_23 rfl (lv_at hl 2 rfl) ?_
    refine lv_iadd hx hb dX6_isGood_24 ?_
    refine lv_topi (fun t_7 et_7 => ?_)
    have hm_8 : t_7 = nI (6 * i0 + i1) := kt_mad (C := 6) rfl ei0 ei1 et_6 et_7
    refine va_iald hx hb hK hP 63 0 at_63 rfl (kt_inN hm_8 (by omega) (by decide)) dX6_isGood_25 ?_
    refine lv_topi (fun t_9 et_9 => ?_)
    rw [hm_8, nI_clamp (by omega)] at et_9
    refine lv_iload_n hx hb dX6_isGood_26 rfl (lv_at hl 3 rfl) ?_
    refine lv_icmp_ne (tgt := 34) hx hb dX6_isGood_27 (by decide) (fun c_10 => ?_) (fun c_10 => ?_)
    · refine lv_iconst (v := 0) hx hb dX6_isGood_34 (by decide) ?_
      exact W.zret (v := 0) (ty := .boolean) hx hb hr rfl (fun t ht hW => ⟨⟨0, (), rfl, (Or.inl rfl), kt_heap ht hP⟩, hS.F ht⟩) hS.2.2 dX6_isGood_35
    · refine lv_iconst (v := 1) hx hb dX6_isGood_30 (by decide) ?_
      refine lv_goto (tgt := 35) hx hb dX6_isGood_31 (by decide) ?_
      exact W.zret (v := 1) (ty := .boolean) hx hb hr rfl (fun t ht hW => ⟨⟨1, (), rfl, (Or.inr rfl), kt_heap ht hP⟩, hS.F ht⟩) hS.2.2 dX6_isGood_35

set_option maxHeartbeats 4000000 in
set_option maxRecDepth 100000 in
theorem c_X6_asks (l : Launch) (dC : Nat → ClassId) (dI : Nat → Nat → Nat) (cI cZ cS cC cJ : ClassId) (a : Nat → Nat) (v : Nat → Nat → Int32) (sz : Nat) (p0 p1 p2 p3 p4 : Int32) (hD : mDD a) (gn : Nat) (hn : gn < 200000) (hB : rB gn v v) (hL : rL v) (i1 : Nat) (hi1 : i1 < 12) (ei1 : p1 = nI i1) (i2 : Nat) (hi2 : i2 < 6) (ei2 : p2 = nI i2) : Met l yX6_asks (Cond.code yX6_asks cX6_asks 7 (some .int) :: WW) ({ frames := 1, cells := 0, slots := 0, locals := 30 }) (va_Pc [.ref (a 45), .int p0, .int p1, .int p2, .int p3, .int p4] (fun U => U.heap.size = sz ∧ va_P (dC, dI) vwCl (mW cI cZ cS cC cJ a v) U.heap ∧ va_K (dC, dI) vwCl [(cI, .int), (cZ, .boolean), (cS, .object RX3), (cC, .object RX0), (cJ, .long)] U ∧ mN U)) (va_Qi (fun (r : Int32) (u : Nat → Nat → Int32) => (rB gn v u) ∧ (rL u)) (fun (u : Nat → Nat → Int32) (t : State) => va_P (dC, dI) vwCl (mW cI cZ cS cC cJ a u) t.heap) (mA a sz)) 0 0 (mA a sz) := by
  refine Met.ofW (cc := cX6_asks) (maxL := 7) (ret := (some .int)) (by decide) rfl ?_
  intro p e s m args below meth c s₁ B hml hv
  obtain ⟨rfl, hsz, hP, hK, hN⟩ := hv
  have hx := B.exec
  have hb := B.bytes
  have hr := B.returns
  have hts := atoms_spec (ws := Cond.code yX6_asks cX6_asks 7 (some .int) :: WW) B.pre
  have hown : s.vm.findClass RX6 = some m.cls := findClass_of_methodNamed B.named
  have hlocks := B.notSynchronized
  subst hsz
  have hAc : ∀ c, c < 81 → mA a s.heap.size (a c) := fun c h => Or.inl ⟨c, h, rfl⟩
  have hA : ∀ q : Nat, s.heap.size ≤ q → mA a s.heap.size q := fun q h => Or.inr h
  generalize hAe : mA a s.heap.size = A at hAc hA ⊢
  have hS : va_S A s.heap s.heap [] := va_S.rf
  have hl := lv_entry ([.ref (a 45), .int p0, .int p1, .int p2, .int p3, .int p4]) (n := 7) (Nat.le_of_ble_eq_true rfl)
  rw [lg_entry_eq]
  generalize (lg_sl ([.ref (a 45), .int p0, .int p1, .int p2, .int p3, .int p4]) ++ List.replicate (7 - (lg_sl ([.ref (a 45), .int p0, .int p1, .int p2, .int p3, .int p4])).length) Slot.unset).toArray = ls at hl ⊢
  have hl : lv_has ls 7 [(0, .ref (a 45)), (1, .int p0), (2, .int p1), (3, .int p2), (4, .int p3), (5, .int p4)] := hl
  refine lv_iload hx hb dX6_asks_0 (lv_at hl 5 rfl) ?_
  refine lv_if_eq (tgt := 32) hx hb dX6_asks_2 (by decide) (fun c_1 => ?_) (fun c_1 => ?_)
  · refine lv_iconst (v := 0) hx hb dX6_asks_32 (by decide) ?_
    refine lv_istore (lv' := [(6, .int 0), (0, .ref (a 45)), (1, .int p0), (2, .int p1), (3, .int p2), (4, .int p3), (5, .int p4)]) hx hb dX6_asks_33 hl (by decide) rfl (fun ls hl => ?_)
    refine lv_iload hx hb dX6_asks_35 (lv_at hl 0 rfl) ?_
    refine lv_if_ne (tgt := 52) hx hb dX6_asks_37 (by decide) (fun c_2 => absurd (by decide) c_2) (fun c_2 => ?_)
    refine lv_aload_n hx hb dX6_asks_40 rfl (lv_at hl 1 rfl) ?_
    refine lv_dup hx hb dX6_asks_41 rfl ?_
    refine va_get (D := (dC, dI)) (ci := 6) (v := .int (v 45 6)) (C := RX6) (T := TX6) (N := 43) hx hb hts (fun w h => List.mem_cons_of_mem _ (inWX6 w h)) hown hK hP 45 at_45 rfl 6 (by decide) (hts _ (List.mem_cons_of_mem _ kw_t3_47)) (fun _ h9 => h9) rfl dX6_asks_42 ?_
    refine lv_topi (fun t_3 et_3 => ?_)
    refine lv_iconst (v := 1) hx hb dX6_asks_45 (by decide) ?_
    refine lv_iadd hx hb dX6_asks_46 ?_
    refine lv_topi (fun t_4 et_4 => ?_)
    refine va_put (D := (dC, dI)) (ci := 6) (v := .int t_4) (ty := .int) (C := RX6) (T := TX6) (N := 43) hx hb hts (fun w h => List.mem_cons_of_mem _ (inWX6 w h)) tyX6 tyX6_ok nmX6 hown hK hP (mD_of hD hAc) hS 45 at_45 rfl 6 (by decide) (hts _ (List.mem_cons_of_mem _ kw_t3_47)) (fun _ h9 => h9) rfl (by decide +kernel) rfl rfl (Nat.le_of_ble_eq_true rfl) dX6_asks_47 (fun H locs hP _ hS => ?_)
    obtain ⟨v_5, ev_5⟩ : ∃ z, z = mU v 45 (upd (v 45) 6 t_4) := ⟨_, rfl⟩
    have hP : va_P (dC, dI) vwCl (mW cI cZ cS cC cJ a v_5) H := by rw [ev_5]; exact mW_put hP (by omega) rfl
    have hB := hB.putO ev_5 (by decide)
    have hL := hL.putM ev_5 (by decide)
    refine lv_iconst (v := 0) hx hb dX6_asks_50 (by decide) ?_
    exact W.iret (v := 0) hx hb hr (fun t ht hW => ⟨⟨0, v_5, rfl, ⟨hB, hL⟩, kt_heap ht hP⟩, hS.F ht⟩) hS.2.2 dX6_asks_51
  · refine lv_aload_n hx hb dX6_asks_5 rfl (lv_at hl 0 rfl) ?_
    refine va_get (D := (dC, dI)) (ci := 6) (v := .ref (a 60)) (C := RX6) (T := TX6) (N := 43) hx hb hts (fun w h => List.mem_cons_of_mem _ (inWX6 w h)) hown hK hP 45 at_45 rfl 23 (by decide) (hts _ (List.mem_cons_of_mem _ kw_t3_64)) (fun _ h9 => h9) rfl dX6_asks_6 ?_
    refine lv_bipush (v := 10) hx hb dX6_asks_9 (by decide) ?_
    refine lv_iload_n hx hb dX6_asks_11 rfl (lv_at hl 3 rfl) ?_
    refine lv_iadd hx hb dX6_asks_12 ?_
    refine lv_topi (fun t_6 et_6 => ?_)
    have hm_7 : t_6 = nI (10 + i2) := by rw [et_6, ei2]; exact nI_add 10 i2
    refine va_zald hx hb hK hP 60 1 at_60 rfl (kt_inN hm_7 (by omega) (by decide)) dX6_asks_13 ?_
    refine lv_topi (fun t_8 et_8 => ?_)
    rw [hm_7, nI_clamp (by omega)] at et_8
    refine lv_if_ne (tgt := 32) hx hb dX6_asks_14 (by decide) (fun c_9 => ?_) (fun c_9 => ?_)
    · refine lv_iconst (v := 0) hx hb dX6_asks_32 (by decide) ?_
      refine lv_istore (lv' := [(6, .int 0), (0, .ref (a 45)), (1, .int p0), (2, .int p1), (3, .int p2), (4, .int p3), (5, .int p4)]) hx hb dX6_asks_33 hl (by decide) rfl (fun ls hl => ?_)
      refine lv_iload hx hb dX6_asks_35 (lv_at hl 0 rfl) ?_
      refine lv_if_ne (tgt := 52) hx hb dX6_asks_37 (by decide) (fun c_10 => absurd (by decide) c_10) (fun c_10 => ?_)
      refine lv_aload_n hx hb dX6_asks_40 rfl (lv_at hl 1 rfl) ?_
      refine lv_dup hx hb dX6_asks_41 rfl ?_
      refine va_get (D := (dC, dI)) (ci := 6) (v := .int (v 45 6)) (C := RX6) (T := TX6) (N := 43) hx hb hts (fun w h => List.mem_cons_of_mem _ (inWX6 w h)) hown hK hP 45 at_45 rfl 6 (by decide) (hts _ (List.mem_cons_of_mem _ kw_t3_47)) (fun _ h9 => h9) rfl dX6_asks_42 ?_
      refine lv_topi (fun t_11 et_11 => ?_)
      refine lv_iconst (v := 1) hx hb dX6_asks_45 (by decide) ?_
      refine lv_iadd hx hb dX6_asks_46 ?_
      refine lv_topi (fun t_12 et_12 => ?_)
      refine va_put (D := (dC, dI)) (ci := 6) (v := .int t_12) (ty := .int) (C := RX6) (T := TX6) (N := 43) hx hb hts (fun w h => List.mem_cons_of_mem _ (inWX6 w h)) tyX6 tyX6_ok nmX6 hown hK hP (mD_of hD hAc) hS 45 at_45 rfl 6 (by decide) (hts _ (List.mem_cons_of_mem _ kw_t3_47)) (fun _ h9 => h9) rfl (by decide +kernel) rfl rfl (Nat.le_of_ble_eq_true rfl) dX6_asks_47 (fun H locs hP _ hS => ?_)
      obtain ⟨v_13, ev_13⟩ : ∃ z, z = mU v 45 (upd (v 45) 6 t_12) := ⟨_, rfl⟩
      have hP : va_P (dC, dI) vwCl (mW cI cZ cS cC cJ a v_13) H := by rw [ev_13]; exact mW_put hP (by omega) rfl
      have hB := hB.putO ev_13 (by decide)
      have hL := hL.putM ev_13 (by decide)
      refine lv_iconst (v := 0) hx hb dX6_asks_50 (by decide) ?_
      exact W.iret (v := 0) hx hb hr (fun t ht hW => ⟨⟨0, v_13, rfl, ⟨hB, hL⟩, kt_heap ht hP⟩, hS.F ht⟩) hS.2.2 dX6_asks_51
    · refine lv_aload_n hx hb dX6_asks_17 rfl (lv_at hl 0 rfl) ?_
      refine lv_iload_n hx hb dX6_asks_18 rfl (lv_at hl 2 rfl) ?_
      refine lv_iload_n hx hb dX6_asks_19 rfl (lv_at hl 3 rfl) ?_
      refine lv_iload hx hb dX6_asks_20 (lv_at hl 4 rfl) ?_
      have hFc := mA_free (a := a) hS hA hAc
      refine va_calli (va_runV (As := [.int p1, .int p2, .int p3]) (rest := []) ⟨hx, hb, hml, hown, hts⟩ (c_X6_isGood l dC dI cI cZ cS cC cJ a v s.heap.size p1 p2 p3 hD gn (by omega) hB.self i1 (by omega) ei1 i2 (by omega) ei2) (cwV 3 hts (gV (fun w h => List.mem_cons_of_mem _ h) kw_t4_36 kw_t4_38 kw_s0_25 kw_t1_7 kw_t4_39) rfl rfl rfl (by decide +kernel) ⟨Nat.le_of_ble_eq_true rfl, Nat.le_of_ble_eq_true rfl⟩) ⟨fun av U g mk q => by obtain ⟨q0, q1, qP, qK, qN⟩ := q; exact ⟨q0, q1, qP, va_K.moved (u := U) (U := U.calling g mk av) (Vm.Alike.refl U.vm) qK, mN_same qN⟩, va_recv hK hP (ci := 6) (q0 := 45) rfl at_45, fun U hU hW => ⟨rfl, by rw [hU], by rw [hU]; exact hP, va_K.moved hW.alike hK, mN_warm hW hN⟩⟩ rfl rfl hl.1 rfl (lv_room (Nat.le_of_ble_eq_true rfl)) dX6_asks_22 ⟨Nat.le_of_ble_eq_true rfl, Nat.le_of_ble_eq_true rfl⟩) hS (fun q _ h => hFc q h) hFc (fun r_14 _ t H locs ht hvm hw_14 hP _ _ hS => ?_)
      have hP := kt_heap2 ht hP
      clear ht hFc
      have hP : va_P (dC, dI) vwCl (mW cI cZ cS cC cJ a v) H := hP
      refine lv_if_eq (tgt := 32) hx hb dX6_asks_25 (by decide) (fun c_15 => ?_) (fun c_15 => ?_)
      · refine lv_iconst (v := 0) hx hb dX6_asks_32 (by decide) ?_
        refine lv_istore (lv' := [(6, .int 0), (0, .ref (a 45)), (1, .int p0), (2, .int p1), (3, .int p2), (4, .int p3), (5, .int p4)]) hx hb dX6_asks_33 hl (by decide) rfl (fun ls hl => ?_)
        refine lv_iload hx hb dX6_asks_35 (lv_at hl 0 rfl) ?_
        refine lv_if_ne (tgt := 52) hx hb dX6_asks_37 (by decide) (fun c_16 => absurd (by decide) c_16) (fun c_16 => ?_)
        refine lv_aload_n hx hb dX6_asks_40 rfl (lv_at hl 1 rfl) ?_
        refine lv_dup hx hb dX6_asks_41 rfl ?_
        refine va_get (D := (dC, dI)) (ci := 6) (v := .int (v 45 6)) (C := RX6) (T := TX6) (N := 43) hx hb hts (fun w h => List.mem_cons_of_mem _ (inWX6 w h)) hown hK hP 45 at_45 rfl 6 (by decide) (hts _ (List.mem_cons_of_mem _ kw_t3_47)) (fun _ h9 => h9) rfl dX6_asks_42 ?_
        refine lv_topi (fun t_17 et_17 => ?_)
        refine lv_iconst (v := 1) hx hb dX6_asks_45 (by decide) ?_
        refine lv_iadd hx hb dX6_asks_46 ?_
        refine lv_topi (fun t_18 et_18 => ?_)
        refine va_put (D := (dC, dI)) (ci := 6) (v := .int t_18) (ty := .int) (C := RX6) (T := TX6) (N := 43) hx hb hts (fun w h => List.mem_cons_of_mem _ (inWX6 w h)) tyX6 tyX6_ok nmX6 hown hK hP (mD_of hD hAc) hS 45 at_45 rfl 6 (by decide) (hts _ (List.mem_cons_of_mem _ kw_t3_47)) (fun _ h9 => h9) rfl (by decide +kernel) rfl rfl (Nat.le_of_ble_eq_true rfl) dX6_asks_47 (fun H locs hP _ hS => ?_)
        obtain ⟨v_19, ev_19⟩ : ∃ z, z = mU v 45 (upd (v 45) 6 t_18) := ⟨_, rfl⟩
        have hP : va_P (dC, dI) vwCl (mW cI cZ cS cC cJ a v_19) H := by rw [ev_19]; exact mW_put hP (by omega) rfl
        have hB := hB.putO ev_19 (by decide)
        have hL := hL.putM ev_19 (by decide)
        refine lv_iconst (v := 0) hx hb dX6_asks_50 (by decide) ?_
        exact W.iret (v := 0) hx hb hr (fun t ht hW => ⟨⟨0, v_19, rfl, ⟨hB, hL⟩, kt_heap ht hP⟩, hS.F ht⟩) hS.2.2 dX6_asks_51
      · refine lv_iconst (v := 1) hx hb dX6_asks_28 (by decide) ?_
        refine lv_goto (tgt := 33) hx hb dX6_asks_29 (by decide) ?_
        refine lv_istore (lv' := [(6, .int 1), (0, .ref (a 45)), (1, .int p0), (2, .int p1), (3, .int p2), (4, .int p3), (5, .int p4)]) hx hb dX6_asks_33 hl (by decide) rfl (fun ls hl => ?_)
        refine lv_iload hx hb dX6_asks_35 (lv_at hl 0 rfl) ?_
        refine lv_if_ne (tgt := 52) hx hb dX6_asks_37 (by decide) (fun c_20 => ?_) (fun c_20 => absurd c_20 (by decide))
        refine lv_aload_n hx hb dX6_asks_52 rfl (lv_at hl 1 rfl) ?_
        refine lv_dup hx hb dX6_asks_53 rfl ?_
        refine va_get (D := (dC, dI)) (ci := 6) (v := .int (v 45 5)) (C := RX6) (T := TX6) (N := 43) hx hb hts (fun w h => List.mem_cons_of_mem _ (inWX6 w h)) hown hK hP 45 at_45 rfl 5 (by decide) (hts _ (List.mem_cons_of_mem _ kw_t3_46)) (fun _ h9 => h9) rfl dX6_asks_54 ?_
        refine lv_topi (fun t_21 et_21 => ?_)
        refine lv_iconst (v := 1) hx hb dX6_asks_57 (by decide) ?_
        refine lv_iadd hx hb dX6_asks_58 ?_
        refine lv_topi (fun t_22 et_22 => ?_)
        refine va_put (D := (dC, dI)) (ci := 6) (v := .int t_22) (ty := .int) (C := RX6) (T := TX6) (N := 43) hx hb hts (fun w h => List.mem_cons_of_mem _ (inWX6 w h)) tyX6 tyX6_ok nmX6 hown hK hP (mD_of hD hAc) hS 45 at_45 rfl 5 (by decide) (hts _ (List.mem_cons_of_mem _ kw_t3_46)) (fun _ h9 => h9) rfl (by decide +kernel) rfl rfl (Nat.le_of_ble_eq_true rfl) dX6_asks_59 (fun H locs hP _ hS => ?_)
        obtain ⟨v_23, ev_23⟩ : ∃ z, z = mU v 45 (upd (v 45) 5 t_22) := ⟨_, rfl⟩
        have hP : va_P (dC, dI) vwCl (mW cI cZ cS cC cJ a v_23) H := by rw [ev_23]; exact mW_put hP (by omega) rfl
        have hB := hB.putO ev_23 (by decide)
        have hL := hL.putM ev_23 (by decide)
        refine lv_aload_n hx hb dX6_asks_62 rfl (lv_at hl 1 rfl) ?_
        refine va_get (D := (dC, dI)) (ci := 6) (v := .ref (a 52)) (C := RX6) (T := TX6) (N := 43) hx hb hts (fun w h => List.mem_cons_of_mem _ (inWX6 w h)) hown hK hP 45 at_45 rfl 15 (by decide) (hts _ (List.mem_cons_of_mem _ kw_t3_56)) (fun _ h9 => h9) rfl dX6_asks_63 ?_
        refine lv_iload_n hx hb dX6_asks_66 rfl (lv_at hl 3 rfl) ?_
        refine va_iald hx hb hK hP 52 0 at_52 rfl (kt_inN ei1 (by omega) (by decide)) dX6_asks_67 ?_
        refine lv_topi (fun t_24 et_24 => ?_)
        rw [ei1, nI_clamp (by omega)] at et_24
        refine lv_if_eq (tgt := 104) hx hb dX6_asks_68 (by decide) (fun c_25 => ?_) (fun c_25 => ?_)
        · refine lv_iconst (v := 1) hx hb dX6_asks_104 (by decide) ?_
          exact W.iret (v := 1) hx hb hr (fun t ht hW => ⟨⟨1, v_23, rfl, ⟨hB, hL⟩, kt_heap ht hP⟩, hS.F ht⟩) hS.2.2 dX6_asks_105
        · refine lv_iload hx hb dX6_asks_71 (lv_at hl 5 rfl) ?_
          refine lv_aload_n hx hb dX6_asks_73 rfl (lv_at hl 1 rfl) ?_
          refine va_get (D := (dC, dI)) (ci := 6) (v := .ref (a 50)) (C := RX6) (T := TX6) (N := 43) hx hb hts (fun w h => List.mem_cons_of_mem _ (inWX6 w h)) hown hK hP 45 at_45 rfl 13 (by decide) (hts _ (List.mem_cons_of_mem _ kw_t3_54)) (fun _ h9 => h9) rfl dX6_asks_74 ?_
          refine lv_iload_n hx hb dX6_asks_77 rfl (lv_at hl 3 rfl) ?_
          refine va_iald hx hb hK hP 50 0 at_50 rfl (kt_inN ei1 (by omega) (by decide)) dX6_asks_78 ?_
          refine lv_topi (fun t_26 et_26 => ?_)
          rw [ei1, nI_clamp (by omega)] at et_26
          refine lv_icmp_eq (tgt := 104) hx hb dX6_asks_79 (by decide) (fun c_27 => ?_) (fun c_27 => ?_)
          · refine lv_iconst (v := 1) hx hb dX6_asks_104 (by decide) ?_
            exact W.iret (v := 1) hx hb hr (fun t ht hW => ⟨⟨1, v_23, rfl, ⟨hB, hL⟩, kt_heap ht hP⟩, hS.F ht⟩) hS.2.2 dX6_asks_105
          · refine lv_aload_n hx hb dX6_asks_82 rfl (lv_at hl 1 rfl) ?_
            refine va_get (D := (dC, dI)) (ci := 6) (v := .ref (a 54)) (C := RX6) (T := TX6) (N := 43) hx hb hts (fun w h => List.mem_cons_of_mem _ (inWX6 w h)) hown hK hP 45 at_45 rfl 17 (by decide) (hts _ (List.mem_cons_of_mem _ kw_t3_58)) (fun _ h9 => h9) rfl dX6_asks_83 ?_
            refine lv_iload_n hx hb dX6_asks_86 rfl (lv_at hl 3 rfl) ?_
            refine lv_dup2_11 hx hb dX6_asks_87 rfl rfl ?_
            refine va_iald hx hb hK hP 54 0 at_54 rfl (kt_inN ei1 (by omega) (by decide)) dX6_asks_88 ?_
            refine lv_topi (fun t_28 et_28 => ?_)
            rw [ei1, nI_clamp (by omega)] at et_28
            refine lv_iconst (v := 1) hx hb dX6_asks_89 (by decide) ?_
            refine lv_iload_n hx hb dX6_asks_90 rfl (lv_at hl 2 rfl) ?_
            refine lv_ishl hx hb dX6_asks_91 ?_
            refine lv_topi (fun t_29 et_29 => ?_)
            refine lv_ior hx hb dX6_asks_92 ?_
            refine lv_topi (fun t_30 et_30 => ?_)
            refine va_iast hx hb hK hP (mD_of hD hAc) hS 54 0 at_54 rfl (kt_inN ei1 (by omega) (by decide)) dX6_asks_93 (fun H locs hP _ hS => ?_)
            obtain ⟨v_31, ev_31⟩ : ∃ z, z = mU v_23 54 (upd (v_23 54) i1 t_30) := ⟨_, rfl⟩
            have hP : va_P (dC, dI) vwCl (mW cI cZ cS cC cJ a v_31) H := by rw [ev_31]; exact mW_put hP (by omega) (by rw [ei1, nI_clamp (by omega)]; rfl)
            have hB := hB.put ev_31 (by decide)
            have hL := hL.put ev_31 (by decide)
            refine lv_aload_n hx hb dX6_asks_94 rfl (lv_at hl 1 rfl) ?_
            refine va_get (D := (dC, dI)) (ci := 6) (v := .ref (a 55)) (C := RX6) (T := TX6) (N := 43) hx hb hts (fun w h => List.mem_cons_of_mem _ (inWX6 w h)) hown hK hP 45 at_45 rfl 18 (by decide) (hts _ (List.mem_cons_of_mem _ kw_t3_59)) (fun _ h9 => h9) rfl dX6_asks_95 ?_
            refine lv_iload_n hx hb dX6_asks_98 rfl (lv_at hl 3 rfl) ?_
            refine lv_aload_n hx hb dX6_asks_99 rfl (lv_at hl 1 rfl) ?_
            refine va_get (D := (dC, dI)) (ci := 6) (v := .int (v_31 45 1)) (C := RX6) (T := TX6) (N := 43) hx hb hts (fun w h => List.mem_cons_of_mem _ (inWX6 w h)) hown hK hP 45 at_45 rfl 1 (by decide) (hts _ (List.mem_cons_of_mem _ kw_t3_42)) (fun _ h9 => h9) rfl dX6_asks_100 ?_
            refine lv_topi (fun t_32 et_32 => ?_)
            refine va_iast hx hb hK hP (mD_of hD hAc) hS 55 0 at_55 rfl (kt_inN ei1 (by omega) (by decide)) dX6_asks_103 (fun H locs hP _ hS => ?_)
            obtain ⟨v_33, ev_33⟩ : ∃ z, z = mU v_31 55 (upd (v_31 55) i1 t_32) := ⟨_, rfl⟩
            have hP : va_P (dC, dI) vwCl (mW cI cZ cS cC cJ a v_33) H := by rw [ev_33]; exact mW_put hP (by omega) (by rw [ei1, nI_clamp (by omega)]; rfl)
            have hB := hB.put ev_33 (by decide)
            have hL := hL.put ev_33 (by decide)
            refine lv_iconst (v := 1) hx hb dX6_asks_104 (by decide) ?_
            exact W.iret (v := 1) hx hb hr (fun t ht hW => ⟨⟨1, v_33, rfl, ⟨hB, hL⟩, kt_heap ht hP⟩, hS.F ht⟩) hS.2.2 dX6_asks_105
