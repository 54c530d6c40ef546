set_option maxHeartbeats 4000000 in
set_option maxRecDepth 100000 in
theorem c_X6_act (l : Launch) (dC : Nat → ClassId) (dI : Nat → Nat → Nat) (cI cZ cS cC cJ : ClassId) (a : Nat → Nat) (v : Nat → Nat → Int32) (sz : Nat) (p0 : Int32) (hD : mDD a) (gn : Nat) (hn : gn < 200000) (hB : rB gn v v) (i0 : Nat) (hi0 : i0 < 600) (ei0 : p0 = nI i0) (hO : ∀ x, x < 12 → (v 56 x).toInt ≤ 16) (hS0 : 0 ≤ smR (v 56) 12) : Met l yX6_act (Cond.code yX6_act cX6_act 4 none :: WW) ({ frames := 0, cells := 0, slots := 0, locals := 0 }) (va_Pc [.ref (a 45), .int p0] (fun U => U.heap.size = sz ∧ va_P (dC, dI) vwCl (mW cI cZ cS cC cJ a v) U.heap ∧ va_K (dC, dI) vwCl [(cI, .int), (cZ, .boolean), (cS, .object RX3), (cC, .object RX0), (cJ, .long)] U ∧ mN U)) (va_Qv (fun (u : Nat → Nat → Int32) => (rB gn v u) ∧ (u 45 = v 45 ∧ u 52 = v 52) ∧ (smR (u 56) 12 = smR (v 56) 12 - 1 ∧ ∀ x, x < 12 → (u 56 x).toInt ≤ (v 56 x).toInt)) (fun (u : Nat → Nat → Int32) (t : State) => va_P (dC, dI) vwCl (mW cI cZ cS cC cJ a u) t.heap) (mA a sz)) 0 0 (mA a sz) := by
  refine Met.ofW (cc := cX6_act) (maxL := 4) (ret := none) (by decide) rfl ?_
  intro p e s m args below meth c s₁ B hml hv
  obtain ⟨rfl, hsz, hP, hK, hN⟩ := hv
  have hx := B.exec
  have hb := B.bytes
  have hr := B.returns
  have hts := atoms_spec (ws := Cond.code yX6_act cX6_act 4 none :: WW) B.pre
  have hown : s.vm.findClass RX6 = some m.cls := findClass_of_methodNamed B.named
  have hlocks := B.notSynchronized
  subst hsz
  have hAc : ∀ c, c < 81 → mA a s.heap.size (a c) := fun c h => Or.inl ⟨c, h, rfl⟩
  have hA : ∀ q : Nat, s.heap.size ≤ q → mA a s.heap.size q := fun q h => Or.inr h
  generalize hAe : mA a s.heap.size = A at hAc hA ⊢
  have hS : va_S A s.heap s.heap [] := va_S.rf
  have hl := lv_entry ([.ref (a 45), .int p0]) (n := 4) (Nat.le_of_ble_eq_true rfl)
  rw [lg_entry_eq]
  generalize (lg_sl ([.ref (a 45), .int p0]) ++ List.replicate (4 - (lg_sl ([.ref (a 45), .int p0])).length) Slot.unset).toArray = ls at hl ⊢
  have hl : lv_has ls 4 [(0, .ref (a 45)), (1, .int p0)] := hl
  refine lv_aload_n hx hb dX6_act_0 rfl (lv_at hl 0 rfl) ?_
  refine va_get (D := (dC, dI)) (ci := 6) (v := .ref (a 68)) (C := RX6) (T := TX6) (N := 43) hx hb hts (fun w h => List.mem_cons_of_mem _ (inWX6 w h)) hown hK hP 45 at_45 rfl 31 (by decide) (hts _ (List.mem_cons_of_mem _ kw_t3_72)) (fun _ h9 => h9) rfl dX6_act_1 ?_
  refine lv_iload_n hx hb dX6_act_4 rfl (lv_at hl 1 rfl) ?_
  refine va_iald hx hb hK hP 68 0 at_68 rfl (kt_inN ei0 (by omega) (by decide)) dX6_act_5 ?_
  refine lv_topi (fun t_1 et_1 => ?_)
  rw [ei0, nI_clamp (by omega)] at et_1
  obtain ⟨ix_1, hx_1, ex_1⟩ := kt_idx (x := t_1) (n := 12) (by rw [et_1]; exact (hB.os _ (by omega)).1) (by rw [et_1]; exact (hB.os _ (by omega)).2)
  refine lv_istore_n (lv' := [(2, .int t_1), (0, .ref (a 45)), (1, .int p0)]) hx hb dX6_act_6 rfl hl (by decide) rfl (fun ls hl => ?_)
  refine lv_aload_n hx hb dX6_act_7 rfl (lv_at hl 1 rfl) ?_
  refine va_get (D := (dC, dI)) (ci := 6) (v := .ref (a 56)) (C := RX6) (T := TX6) (N := 43) hx hb hts (fun w h => List.mem_cons_of_mem _ (inWX6 w h)) hown hK hP 45 at_45 rfl 19 (by decide) (hts _ (List.mem_cons_of_mem _ kw_t3_60)) (fun _ h9 => h9) rfl dX6_act_8 ?_
  refine lv_iload_n hx hb dX6_act_11 rfl (lv_at hl 0 rfl) ?_
  refine lv_dup2_11 hx hb dX6_act_12 rfl rfl ?_
  refine va_iald hx hb hK hP 56 0 at_56 rfl (kt_inN ex_1 (by omega) (by decide)) dX6_act_13 ?_
  refine lv_topi (fun t_2 et_2 => ?_)
  rw [ex_1, nI_clamp (by omega)] at et_2
  refine lv_iconst (v := 1) hx hb dX6_act_14 (by decide) ?_
  refine lv_isub hx hb dX6_act_15 ?_
  refine lv_topi (fun t_3 et_3 => ?_)
  refine va_iast hx hb hK hP (mD_of hD hAc) hS 56 0 at_56 rfl (kt_inN ex_1 (by omega) (by decide)) dX6_act_16 (fun H locs hP _ hS => ?_)
  obtain ⟨v_4, ev_4⟩ : ∃ z, z = mU v 56 (upd (v 56) ix_1 t_3) := ⟨_, rfl⟩
  have hP : va_P (dC, dI) vwCl (mW cI cZ cS cC cJ a v_4) H := by rw [ev_4]; exact mW_put hP (by omega) (by rw [ex_1, nI_clamp (by omega)]; rfl)
  have hB := hB.put ev_4 (by decide)
  have hact := act_dec ev_4 (by rw [et_3, et_2]) hO hS0 hx_1
  refine lv_aload_n hx hb dX6_act_17 rfl (lv_at hl 1 rfl) ?_
  refine va_get (D := (dC, dI)) (ci := 6) (v := .ref (a 67)) (C := RX6) (T := TX6) (N := 43) hx hb hts (fun w h => List.mem_cons_of_mem _ (inWX6 w h)) hown hK hP 45 at_45 rfl 30 (by decide) (hts _ (List.mem_cons_of_mem _ kw_t3_71)) (fun _ h9 => h9) rfl dX6_act_18 ?_
  refine lv_iload_n hx hb dX6_act_21 rfl (lv_at hl 2 rfl) ?_
  refine va_iald hx hb hK hP 67 0 at_67 rfl (kt_inN ei0 (by omega) (by decide)) dX6_act_22 ?_
  refine lv_topi (fun t_5 et_5 => ?_)
  rw [ei0, nI_clamp (by omega)] at et_5
  obtain ⟨ix_5, hx_5, ex_5⟩ := kt_idx (x := t_5) (n := 16) (by rw [et_5]; exact (hB.tw _ (by omega)).1) (by rw [et_5]; exact (hB.tw _ (by omega)).2)
  refine lv_bipush (v := 10) hx hb dX6_act_23 (by decide) ?_
  refine lv_icmp_ge (tgt := 51) hx hb dX6_act_25 (by decide) (fun c_6 => ?_) (fun c_6 => ?_)
  · refine lv_bipush (v := 6) hx hb dX6_act_51 (by decide) ?_
    refine lv_iload_n hx hb dX6_act_53 rfl (lv_at hl 0 rfl) ?_
    refine lv_imul hx hb dX6_act_54 ?_
    refine lv_topi (fun t_7 et_7 => ?_)
    refine lv_aload_n hx hb dX6_act_55 rfl (lv_at hl 1 rfl) ?_
    refine va_get (D := (dC, dI)) (ci := 6) (v := .ref (a 67)) (C := RX6) (T := TX6) (N := 43) hx hb hts (fun w h => List.mem_cons_of_mem _ (inWX6 w h)) hown hK hP 45 at_45 rfl 30 (by decide) (hts _ (List.mem_cons_of_mem _ kw_t3_71)) (fun _ h9 => h9) rfl dX6_act_56 ?_
    refine lv_iload_n hx hb dX6_act_59 rfl (lv_at hl 2 rfl) ?_
    refine va_iald hx hb hK hP 67 0 at_67 rfl (kt_inN ei0 (by omega) (by decide)) dX6_act_60 ?_
    refine lv_topi (fun t_8 et_8 => ?_)
    rw [ei0, nI_clamp (by omega)] at et_8
    obtain rfl : t_5 = t_8 := et_5.trans et_8.symm
    refine lv_iadd hx hb dX6_act_61 ?_
    refine lv_topi (fun t_9 et_9 => ?_)
    refine lv_bipush (v := 10) hx hb dX6_act_62 (by decide) ?_
    refine lv_isub hx hb dX6_act_64 ?_
    refine lv_topi (fun t_10 et_10 => ?_)
    refine lv_istore_n (lv' := [(3, .int t_10), (2, .int t_1), (0, .ref (a 45)), (1, .int p0)]) hx hb dX6_act_65 rfl hl (by decide) rfl (fun ls hl => ?_)
    refine lv_aload_n hx hb dX6_act_66 rfl (lv_at hl 2 rfl) ?_
    refine va_get (D := (dC, dI)) (ci := 6) (v := .ref (a 72)) (C := RX6) (T := TX6) (N := 43) hx hb hts (fun w h => List.mem_cons_of_mem _ (inWX6 w h)) hown hK hP 45 at_45 rfl 35 (by decide) (hts _ (List.mem_cons_of_mem _ kw_t3_76)) (fun _ h9 => h9) rfl dX6_act_67 ?_
    refine lv_iload_n hx hb dX6_act_70 rfl (lv_at hl 3 rfl) ?_
    refine va_zald hx hb hK hP 72 1 at_72 rfl (kt_inN ei0 (by omega) (by decide)) dX6_act_71 ?_
    refine lv_topi (fun t_11 et_11 => ?_)
    rw [ei0, nI_clamp (by omega)] at et_11
    refine lv_if_eq (tgt := 109) hx hb dX6_act_72 (by decide) (fun c_12 => ?_) (fun c_12 => ?_)
    · refine lv_aload_n hx hb dX6_act_109 rfl (lv_at hl 2 rfl) ?_
      refine va_get (D := (dC, dI)) (ci := 6) (v := .ref (a 63)) (C := RX6) (T := TX6) (N := 43) hx hb hts (fun w h => List.mem_cons_of_mem _ (inWX6 w h)) hown hK hP 45 at_45 rfl 26 (by decide) (hts _ (List.mem_cons_of_mem _ kw_t3_67)) (fun _ h9 => h9) rfl dX6_act_110 ?_
      refine lv_iload_n hx hb dX6_act_113 rfl (lv_at hl 0 rfl) ?_
      refine lv_aload_n hx hb dX6_act_114 rfl (lv_at hl 2 rfl) ?_
      refine va_get (D := (dC, dI)) (ci := 6) (v := .ref (a 70)) (C := RX6) (T := TX6) (N := 43) hx hb hts (fun w h => List.mem_cons_of_mem _ (inWX6 w h)) hown hK hP 45 at_45 rfl 33 (by decide) (hts _ (List.mem_cons_of_mem _ kw_t3_74)) (fun _ h9 => h9) rfl dX6_act_115 ?_
      refine lv_iload_n hx hb dX6_act_118 rfl (lv_at hl 3 rfl) ?_
      refine va_iald hx hb hK hP 70 0 at_70 rfl (kt_inN ei0 (by omega) (by decide)) dX6_act_119 ?_
      refine lv_topi (fun t_13 et_13 => ?_)
      rw [ei0, nI_clamp (by omega)] at et_13
      have hw10_14 : 10 ≤ ix_5 := by have z := c_6; rw [ex_5, Int32.le_iff_toInt_le, nI_toInt (by omega), L10] at z; omega
      have hm_15 : t_9 = nI (6 * ix_1 + ix_5) := kt_mad (C := 6) rfl ex_1 ex_5 et_7 et_9
      have hm_14 : t_10 = nI (6 * ix_1 + (ix_5 - 10)) := kt_sub10 (hm_15.trans (by congr 1; omega)) et_10
      refine va_iast hx hb hK hP (mD_of hD hAc) hS 63 0 at_63 rfl (kt_inN hm_14 (by omega) (by decide)) dX6_act_120 (fun H locs hP _ hS => ?_)
      obtain ⟨v_16, ev_16⟩ : ∃ z, z = mU v_4 63 (upd (v_4 63) (6 * ix_1 + (ix_5 - 10)) t_13) := ⟨_, rfl⟩
      have hP : va_P (dC, dI) vwCl (mW cI cZ cS cC cJ a v_16) H := by rw [ev_16]; exact mW_put hP (by omega) (by rw [hm_14, nI_clamp (by omega)]; rfl)
      have hB := hB.put ev_16 (by decide)
      refine lv_aload_n hx hb dX6_act_121 rfl (lv_at hl 2 rfl) ?_
      refine va_get (D := (dC, dI)) (ci := 6) (v := .ref (a 66)) (C := RX6) (T := TX6) (N := 43) hx hb hts (fun w h => List.mem_cons_of_mem _ (inWX6 w h)) hown hK hP 45 at_45 rfl 29 (by decide) (hts _ (List.mem_cons_of_mem _ kw_t3_70)) (fun _ h9 => h9) rfl dX6_act_122 ?_
      refine lv_iload_n hx hb dX6_act_125 rfl (lv_at hl 0 rfl) ?_
      refine lv_aload_n hx hb dX6_act_126 rfl (lv_at hl 2 rfl) ?_
      refine va_get (D := (dC, dI)) (ci := 6) (v := .ref (a 71)) (C := RX6) (T := TX6) (N := 43) hx hb hts (fun w h => List.mem_cons_of_mem _ (inWX6 w h)) hown hK hP 45 at_45 rfl 34 (by decide) (hts _ (List.mem_cons_of_mem _ kw_t3_75)) (fun _ h9 => h9) rfl dX6_act_127 ?_
      refine lv_iload_n hx hb dX6_act_130 rfl (lv_at hl 3 rfl) ?_
      refine va_iald hx hb hK hP 71 0 at_71 rfl (kt_inN ei0 (by omega) (by decide)) dX6_act_131 ?_
      refine lv_topi (fun t_17 et_17 => ?_)
      rw [ei0, nI_clamp (by omega)] at et_17
      refine va_iast hx hb hK hP (mD_of hD hAc) hS 66 0 at_66 rfl (kt_inN hm_14 (by omega) (by decide)) dX6_act_132 (fun H locs hP _ hS => ?_)
      obtain ⟨v_18, ev_18⟩ : ∃ z, z = mU v_16 66 (upd (v_16 66) (6 * ix_1 + (ix_5 - 10)) t_17) := ⟨_, rfl⟩
      have hP : va_P (dC, dI) vwCl (mW cI cZ cS cC cJ a v_18) H := by rw [ev_18]; exact mW_put hP (by omega) (by rw [hm_14, nI_clamp (by omega)]; rfl)
      have hB := hB.put ev_18 (by decide)
      exact W.vret hx hb hr (fun t ht hW => ⟨⟨v_18, rfl, ⟨hB, ⟨(by rw [ev_18, mU_ne _ _ (by first | decide | omega), ev_16, mU_ne _ _ (by first | decide | omega), ev_4, mU_ne _ _ (by first | decide | omega)]), (by rw [ev_18, mU_ne _ _ (by first | decide | omega), ev_16, mU_ne _ _ (by first | decide | omega), ev_4, mU_ne _ _ (by first | decide | omega)])⟩, (by rw [show v_18 56 = v_4 56 from (by rw [ev_18, mU_ne _ _ (by first | decide | omega), ev_16, mU_ne _ _ (by first | decide | omega)])]; exact hact)⟩, kt_heap ht hP⟩, hS.F ht⟩) hS.2.2 dX6_act_133
    · refine lv_aload_n hx hb dX6_act_75 rfl (lv_at hl 2 rfl) ?_
      refine va_get (D := (dC, dI)) (ci := 6) (v := .ref (a 62)) (C := RX6) (T := TX6) (N := 43) hx hb hts (fun w h => List.mem_cons_of_mem _ (inWX6 w h)) hown hK hP 45 at_45 rfl 25 (by decide) (hts _ (List.mem_cons_of_mem _ kw_t3_66)) (fun _ h9 => h9) rfl dX6_act_76 ?_
      refine lv_iload_n hx hb dX6_act_79 rfl (lv_at hl 0 rfl) ?_
      refine lv_aload_n hx hb dX6_act_80 rfl (lv_at hl 2 rfl) ?_
      refine va_get (D := (dC, dI)) (ci := 6) (v := .ref (a 70)) (C := RX6) (T := TX6) (N := 43) hx hb hts (fun w h => List.mem_cons_of_mem _ (inWX6 w h)) hown hK hP 45 at_45 rfl 33 (by decide) (hts _ (List.mem_cons_of_mem _ kw_t3_74)) (fun _ h9 => h9) rfl dX6_act_81 ?_
      refine lv_iload_n hx hb dX6_act_84 rfl (lv_at hl 3 rfl) ?_
      refine va_iald hx hb hK hP 70 0 at_70 rfl (kt_inN ei0 (by omega) (by decide)) dX6_act_85 ?_
      refine lv_topi (fun t_19 et_19 => ?_)
      rw [ei0, nI_clamp (by omega)] at et_19
      have hw10_20 : 10 ≤ ix_5 := by have z := c_6; rw [ex_5, Int32.le_iff_toInt_le, nI_toInt (by omega), L10] at z; omega
      have hm_21 : t_9 = nI (6 * ix_1 + ix_5) := kt_mad (C := 6) rfl ex_1 ex_5 et_7 et_9
      have hm_20 : t_10 = nI (6 * ix_1 + (ix_5 - 10)) := kt_sub10 (hm_21.trans (by congr 1; omega)) et_10
      refine va_iast hx hb hK hP (mD_of hD hAc) hS 62 0 at_62 rfl (kt_inN hm_20 (by omega) (by decide)) dX6_act_86 (fun H locs hP _ hS => ?_)
      obtain ⟨v_22, ev_22⟩ : ∃ z, z = mU v_4 62 (upd (v_4 62) (6 * ix_1 + (ix_5 - 10)) t_19) := ⟨_, rfl⟩
      have hP : va_P (dC, dI) vwCl (mW cI cZ cS cC cJ a v_22) H := by rw [ev_22]; exact mW_put hP (by omega) (by rw [hm_20, nI_clamp (by omega)]; rfl)
      have hB := hB.put ev_22 (by decide)
      refine lv_aload_n hx hb dX6_act_87 rfl (lv_at hl 2 rfl) ?_
      refine va_get (D := (dC, dI)) (ci := 6) (v := .ref (a 65)) (C := RX6) (T := TX6) (N := 43) hx hb hts (fun w h => List.mem_cons_of_mem _ (inWX6 w h)) hown hK hP 45 at_45 rfl 28 (by decide) (hts _ (List.mem_cons_of_mem _ kw_t3_69)) (fun _ h9 => h9) rfl dX6_act_88 ?_
      refine lv_iload_n hx hb dX6_act_91 rfl (lv_at hl 0 rfl) ?_
      refine lv_aload_n hx hb dX6_act_92 rfl (lv_at hl 2 rfl) ?_
      refine va_get (D := (dC, dI)) (ci := 6) (v := .ref (a 71)) (C := RX6) (T := TX6) (N := 43) hx hb hts (fun w h => List.mem_cons_of_mem _ (inWX6 w h)) hown hK hP 45 at_45 rfl 34 (by decide) (hts _ (List.mem_cons_of_mem _ kw_t3_75)) (fun _ h9 => h9) rfl dX6_act_93 ?_
      refine lv_iload_n hx hb dX6_act_96 rfl (lv_at hl 3 rfl) ?_
      refine va_iald hx hb hK hP 71 0 at_71 rfl (kt_inN ei0 (by omega) (by decide)) dX6_act_97 ?_
      refine lv_topi (fun t_23 et_23 => ?_)
      rw [ei0, nI_clamp (by omega)] at et_23
      refine va_iast hx hb hK hP (mD_of hD hAc) hS 65 0 at_65 rfl (kt_inN hm_20 (by omega) (by decide)) dX6_act_98 (fun H locs hP _ hS => ?_)
      obtain ⟨v_24, ev_24⟩ : ∃ z, z = mU v_22 65 (upd (v_22 65) (6 * ix_1 + (ix_5 - 10)) t_23) := ⟨_, rfl⟩
      have hP : va_P (dC, dI) vwCl (mW cI cZ cS cC cJ a v_24) H := by rw [ev_24]; exact mW_put hP (by omega) (by rw [hm_20, nI_clamp (by omega)]; rfl)
      have hB := hB.put ev_24 (by decide)
      refine lv_aload_n hx hb dX6_act_99 rfl (lv_at hl 2 rfl) ?_
      refine va_get (D := (dC, dI)) (ci := 6) (v := .ref (a 63)) (C := RX6) (T := TX6) (N := 43) hx hb hts (fun w h => List.mem_cons_of_mem _ (inWX6 w h)) hown hK hP 45 at_45 rfl 26 (by decide) (hts _ (List.mem_cons_of_mem _ kw_t3_67)) (fun _ h9 => h9) rfl dX6_act_100 ?_
      refine lv_iload_n hx hb dX6_act_103 rfl (lv_at hl 0 rfl) ?_
      refine lv_iconst (v := (-1)) hx hb dX6_act_104 (by decide) ?_
      refine va_iast hx hb hK hP (mD_of hD hAc) hS 63 0 at_63 rfl (kt_inN hm_20 (by omega) (by decide)) dX6_act_105 (fun H locs hP _ hS => ?_)
      obtain ⟨v_25, ev_25⟩ : ∃ z, z = mU v_24 63 (upd (v_24 63) (6 * ix_1 + (ix_5 - 10)) (-1)) := ⟨_, rfl⟩
      have hP : va_P (dC, dI) vwCl (mW cI cZ cS cC cJ a v_25) H := by rw [ev_25]; exact mW_put hP (by omega) (by rw [hm_20, nI_clamp (by omega)]; rfl)
      have hB := hB.put ev_25 (by decide)
      refine lv_goto (tgt := 133) hx hb dX6_act_106 (by decide) ?_
      exact W.vret hx hb hr (fun t ht hW => ⟨⟨v_25, rfl, ⟨hB, ⟨(by rw [ev_25, mU_ne _ _ (by first | decide | omega), ev_24, mU_ne _ _ (by first | decide | omega), ev_22, mU_ne _ _ (by first | decide | omega), ev_4, mU_ne _ _ (by first | decide | omega)]), (by rw [ev_25, mU_ne _ _ (by first | decide | omega), ev_24, mU_ne _ _ (by first | decide | omega), ev_22, mU_ne _ _ (by first | decide | omega), ev_4, mU_ne _ _ (by first | decide | omega)])⟩, (by rw [show v_25 56 = v_4 56 from (by rw [ev_25, mU_ne _ _ (by first | decide | omega), ev_24, mU_ne _ _ (by first | decide | omega), ev_22, mU_ne _ _ (by first | decide | omega)])]; exact hact)⟩, kt_heap ht hP⟩, hS.F ht⟩) hS.2.2 dX6_act_133
  · refine lv_aload_n hx hb dX6_act_28 rfl (lv_at hl 1 rfl) ?_
    refine va_get (D := (dC, dI)) (ci := 6) (v := .ref (a 61)) (C := RX6) (T := TX6) (N := 43) hx hb hts (fun w h => List.mem_cons_of_mem _ (inWX6 w h)) hown hK hP 45 at_45 rfl 24 (by decide) (hts _ (List.mem_cons_of_mem _ kw_t3_65)) (fun _ h9 => h9) rfl dX6_act_29 ?_
    refine lv_bipush (v := 10) hx hb dX6_act_32 (by decide) ?_
    refine lv_iload_n hx hb dX6_act_34 rfl (lv_at hl 0 rfl) ?_
    refine lv_imul hx hb dX6_act_35 ?_
    refine lv_topi (fun t_26 et_26 => ?_)
    refine lv_aload_n hx hb dX6_act_36 rfl (lv_at hl 1 rfl) ?_
    refine va_get (D := (dC, dI)) (ci := 6) (v := .ref (a 67)) (C := RX6) (T := TX6) (N := 43) hx hb hts (fun w h => List.mem_cons_of_mem _ (inWX6 w h)) hown hK hP 45 at_45 rfl 30 (by decide) (hts _ (List.mem_cons_of_mem _ kw_t3_71)) (fun _ h9 => h9) rfl dX6_act_37 ?_
    refine lv_iload_n hx hb dX6_act_40 rfl (lv_at hl 2 rfl) ?_
    refine va_iald hx hb hK hP 67 0 at_67 rfl (kt_inN ei0 (by omega) (by decide)) dX6_act_41 ?_
    refine lv_topi (fun t_27 et_27 => ?_)
    rw [ei0, nI_clamp (by omega)] at et_27
    obtain rfl : t_5 = t_27 := et_5.trans et_27.symm
    refine lv_iadd hx hb dX6_act_42 ?_
    refine lv_topi (fun t_28 et_28 => ?_)
    refine lv_aload_n hx hb dX6_act_43 rfl (lv_at hl 1 rfl) ?_
    refine va_get (D := (dC, dI)) (ci := 6) (v := .ref (a 70)) (C := RX6) (T := TX6) (N := 43) hx hb hts (fun w h => List.mem_cons_of_mem _ (inWX6 w h)) hown hK hP 45 at_45 rfl 33 (by decide) (hts _ (List.mem_cons_of_mem _ kw_t3_74)) (fun _ h9 => h9) rfl dX6_act_44 ?_
    refine lv_iload_n hx hb dX6_act_47 rfl (lv_at hl 2 rfl) ?_
    refine va_iald hx hb hK hP 70 0 at_70 rfl (kt_inN ei0 (by omega) (by decide)) dX6_act_48 ?_
    refine lv_topi (fun t_29 et_29 => ?_)
    rw [ei0, nI_clamp (by omega)] at et_29
    have hw10_30 : ix_5 < 10 := by have z := c_6; rw [ex_5, Int32.le_iff_toInt_le, nI_toInt (by omega), L10] at z; omega
    have hm_31 : t_28 = nI (10 * ix_1 + ix_5) := kt_mad (C := 10) rfl ex_1 ex_5 et_26 et_28
    refine va_iast hx hb hK hP (mD_of hD hAc) hS 61 0 at_61 rfl (kt_inN hm_31 (by omega) (by decide)) dX6_act_49 (fun H locs hP _ hS => ?_)
    obtain ⟨v_32, ev_32⟩ : ∃ z, z = mU v_4 61 (upd (v_4 61) (10 * ix_1 + ix_5) t_29) := ⟨_, rfl⟩
    have hP : va_P (dC, dI) vwCl (mW cI cZ cS cC cJ a v_32) H := by rw [ev_32]; exact mW_put hP (by omega) (by rw [hm_31, nI_clamp (by omega)]; rfl)
    have hB := hB.put ev_32 (by decide)
    exact W.vret hx hb hr (fun t ht hW => ⟨⟨v_32, rfl, ⟨hB, ⟨(by rw [ev_32, mU_ne _ _ (by first | decide | omega), ev_4, mU_ne _ _ (by first | decide | omega)]), (by rw [ev_32, mU_ne _ _ (by first | decide | omega), ev_4, mU_ne _ _ (by first | decide | omega)])⟩, (by rw [show v_32 56 = v_4 56 from (by rw [ev_32, mU_ne _ _ (by first | decide | omega)])]; exact hact)⟩, kt_heap ht hP⟩, hS.F ht⟩) hS.2.2 dX6_act_50

set_option maxHeartbeats 4000000 in
set_option maxRecDepth 100000 in
theorem c_X6_take (l : Launch) (dC : Nat → ClassId) (dI : Nat → Nat → Nat) (cI cZ cS cC cJ : ClassId) (a : Nat → Nat) (v : Nat → Nat → Int32) (sz : Nat) (p0 : Int32) (hD : mDD a) (gn : Nat) (hn : gn < 200000) (hB : rB gn v v) (hL : rL v) (i0 : Nat) (hi0 : i0 < 16) (ei0 : p0 = nI i0) : Met l yX6_take (Cond.code yX6_take cX6_take 4 none :: WW) ({ frames := 1, cells := 0, slots := 0, locals := 30 }) (va_Pc [.ref (a 45), .int p0] (fun U => U.heap.size = sz ∧ va_P (dC, dI) vwCl (mW cI cZ cS cC cJ a v) U.heap ∧ va_K (dC, dI) vwCl [(cI, .int), (cZ, .boolean), (cS, .object RX3), (cC, .object RX0), (cJ, .long)] U ∧ mN U)) (va_Qv (fun (u : Nat → Nat → Int32) => (rB gn v u) ∧ (rL u)) (fun (u : Nat → Nat → Int32) (t : State) => va_P (dC, dI) vwCl (mW cI cZ cS cC cJ a u) t.heap) (mA a sz)) 0 0 (mA a sz) := by
  refine Met.ofW (cc := cX6_take) (maxL := 4) (ret := none) (by decide) rfl ?_
  intro p e s m args below meth c s₁ B hml hv
  obtain ⟨rfl, hsz, hP, hK, hN⟩ := hv
  have hx := B.exec
  have hb := B.bytes
  have hr := B.returns
  have hts := atoms_spec (ws := Cond.code yX6_take cX6_take 4 none :: WW) B.pre
  have hown : s.vm.findClass RX6 = some m.cls := findClass_of_methodNamed B.named
  have hlocks := B.notSynchronized
  subst hsz
  have hAc : ∀ c, c < 81 → mA a s.heap.size (a c) := fun c h => Or.inl ⟨c, h, rfl⟩
  have hA : ∀ q : Nat, s.heap.size ≤ q → mA a s.heap.size q := fun q h => Or.inr h
  generalize hAe : mA a s.heap.size = A at hAc hA ⊢
  have hS : va_S A s.heap s.heap [] := va_S.rf
  have hl := lv_entry ([.ref (a 45), .int p0]) (n := 4) (Nat.le_of_ble_eq_true rfl)
  rw [lg_entry_eq]
  generalize (lg_sl ([.ref (a 45), .int p0]) ++ List.replicate (4 - (lg_sl ([.ref (a 45), .int p0])).length) Slot.unset).toArray = ls at hl ⊢
  have hl : lv_has ls 4 [(0, .ref (a 45)), (1, .int p0)] := hl
  refine kt_absQ (fun Q hQ9 => ?_)
  refine lv_aload_n hx hb dX6_take_0 rfl (lv_at hl 0 rfl) ?_
  refine va_get (D := (dC, dI)) (ci := 6) (v := .ref (a 60)) (C := RX6) (T := TX6) (N := 43) hx hb hts (fun w h => List.mem_cons_of_mem _ (inWX6 w h)) hown hK hP 45 at_45 rfl 23 (by decide) (hts _ (List.mem_cons_of_mem _ kw_t3_64)) (fun _ h9 => h9) rfl dX6_take_1 ?_
  refine lv_iload_n hx hb dX6_take_4 rfl (lv_at hl 1 rfl) ?_
  refine va_zald hx hb hK hP 60 1 at_60 rfl (kt_inN ei0 (by omega) (by decide)) dX6_take_5 ?_
  refine lv_topi (fun t_1 et_1 => ?_)
  rw [ei0, nI_clamp (by omega)] at et_1
  refine lv_if_eq (tgt := 10) hx hb dX6_take_6 (by decide) (fun c_2 => ?_) (fun c_2 => ?_)
  · refine lv_iconst (v := 0) hx hb dX6_take_10 (by decide) ?_
    refine lv_istore_n (lv' := [(2, .int 0), (0, .ref (a 45)), (1, .int p0)]) hx hb dX6_take_11 rfl hl (by decide) rfl (fun ls hl => ?_)
    refine lv_iconst (v := 0) hx hb dX6_take_12 (by decide) ?_
    refine lv_istore_n (lv' := [(3, .int 0), (2, .int 0), (0, .ref (a 45)), (1, .int p0)]) hx hb dX6_take_13 rfl hl (by decide) rfl (fun ls hl => ?_)
    have key1 : ∀ (n i1 : Nat) (k1 : Int32) (y1_2 : Int32) (w1 : Nat → Nat → Int32) (H : Heap) (locs : List Loc) (ls : Array Slot), i1 ≤ 600 → 600 - i1 < n → k1 = nI i1 → va_P (dC, dI) vwCl (mW cI cZ cS cC cJ a w1) H → va_S A s.heap H locs → lv_has ls 4 [(3, .int k1), (2, .int y1_2), (0, .ref (a 45)), (1, .int p0)] → rB gn v w1 → (rK w1 y1_2 i1) → W p l e (headSpec (Cond.code yX6_take cX6_take 4 none :: WW) ({ frames := 1, cells := 0, slots := 0, locals := 30 })).room s m ([.ref (a 45), .int p0] : List Value).toArray below meth c H locs 0 0 Q (F0 m 14 ls []) := by
      intro n
      induction n with
      | zero => intro i k y1_2 w1 H locs ls h1 h2; exact absurd h2 (by omega)
      | succ n ih1 =>
        intro i1 k1 y1_2 w1 H locs ls hi1 hin1 ek1 hP hS hl hB hJ1
        obtain ⟨kp, ekp, hkp, hsm, hil, hl5, hbd⟩ := hJ1
        refine lv_iload_n hx hb dX6_take_14 rfl (lv_at hl 0 rfl) ?_
        refine lv_aload_n hx hb dX6_take_15 rfl (lv_at hl 2 rfl) ?_
        refine va_get (D := (dC, dI)) (ci := 6) (v := .int (w1 45 3)) (C := RX6) (T := TX6) (N := 43) hx hb hts (fun w h => List.mem_cons_of_mem _ (inWX6 w h)) hown hK hP 45 at_45 rfl 3 (by decide) (hts _ (List.mem_cons_of_mem _ kw_t3_44)) (fun _ h9 => h9) rfl dX6_take_16 ?_
        refine lv_topi (fun t_3 et_3 => ?_)
        have hle_3 : 0 ≤ t_3.toInt ∧ t_3.toInt ≤ 480 := by rw [et_3]; exact ⟨by omega, by omega⟩
        refine lv_icmp_ge (tgt := 134) hx hb dX6_take_19 (by decide) (fun c_4 => ?_) (fun c_4 => ?_)
        · refine lv_aload_n hx hb dX6_take_134 rfl (lv_at hl 2 rfl) ?_
          refine lv_iload_n hx hb dX6_take_135 rfl (lv_at hl 1 rfl) ?_
          refine va_put (D := (dC, dI)) (ci := 6) (v := .int y1_2) (ty := .int) (C := RX6) (T := TX6) (N := 43) hx hb hts (fun w h => List.mem_cons_of_mem _ (inWX6 w h)) tyX6 tyX6_ok nmX6 hown hK hP (mD_of hD hAc) hS 45 at_45 rfl 3 (by decide) (hts _ (List.mem_cons_of_mem _ kw_t3_44)) (fun _ h9 => h9) rfl (by decide +kernel) rfl rfl (Nat.le_of_ble_eq_true rfl) dX6_take_136 (fun H locs hP _ hS => ?_)
          obtain ⟨v_5, ev_5⟩ : ∃ z, z = mU w1 45 (upd (w1 45) 3 y1_2) := ⟨_, rfl⟩
          have hP : va_P (dC, dI) vwCl (mW cI cZ cS cC cJ a v_5) H := by rw [ev_5]; exact mW_put hP (by omega) rfl
          have hB := hB.putO ev_5 (by decide)
          have hend : (w1 45 3).toInt ≤ i1 := by have z := c_4; rw [Int32.le_iff_toInt_le, ek1, nI_toInt (by omega), et_3] at z; exact z
          have hL := rK.done ekp (by omega) hsm hend hil hbd ev_5
          rw [hQ9]
          exact W.vret hx hb hr (fun t ht hW => ⟨⟨v_5, rfl, ⟨hB, hL⟩, kt_heap ht hP⟩, hS.F ht⟩) hS.2.2 dX6_take_139
        · refine lv_aload_n hx hb dX6_take_22 rfl (lv_at hl 2 rfl) ?_
          refine va_get (D := (dC, dI)) (ci := 6) (v := .ref (a 67)) (C := RX6) (T := TX6) (N := 43) hx hb hts (fun w h => List.mem_cons_of_mem _ (inWX6 w h)) hown hK hP 45 at_45 rfl 30 (by decide) (hts _ (List.mem_cons_of_mem _ kw_t3_71)) (fun _ h9 => h9) rfl dX6_take_23 ?_
          refine lv_iload_n hx hb dX6_take_26 rfl (lv_at hl 0 rfl) ?_
          have hi_6 : i1 < 600 := kt_ltB (Int.le_trans hle_3.2 (by decide)) ek1 hi1 c_4
          refine va_iald hx hb hK hP 67 0 at_67 rfl (kt_inN ek1 (by omega) (by decide)) dX6_take_27 ?_
          refine lv_topi (fun t_7 et_7 => ?_)
          rw [ek1, nI_clamp (by omega)] at et_7
          obtain ⟨ix_7, hx_7, ex_7⟩ := kt_idx (x := t_7) (n := 16) (by rw [et_7]; exact (hB.tw _ (by omega)).1) (by rw [et_7]; exact (hB.tw _ (by omega)).2)
          refine lv_iload_n hx hb dX6_take_28 rfl (lv_at hl 3 rfl) ?_
          refine lv_icmp_ne (tgt := 53) hx hb dX6_take_29 (by decide) (fun c_8 => ?_) (fun c_8 => ?_)
          · refine lv_aload_n hx hb dX6_take_53 rfl (lv_at hl 2 rfl) ?_
            refine va_get (D := (dC, dI)) (ci := 6) (v := .ref (a 67)) (C := RX6) (T := TX6) (N := 43) hx hb hts (fun w h => List.mem_cons_of_mem _ (inWX6 w h)) hown hK hP 45 at_45 rfl 30 (by decide) (hts _ (List.mem_cons_of_mem _ kw_t3_71)) (fun _ h9 => h9) rfl dX6_take_54 ?_
            refine lv_iload_n hx hb dX6_take_57 rfl (lv_at hl 1 rfl) ?_
            refine lv_aload_n hx hb dX6_take_58 rfl (lv_at hl 2 rfl) ?_
            refine va_get (D := (dC, dI)) (ci := 6) (v := .ref (a 67)) (C := RX6) (T := TX6) (N := 43) hx hb hts (fun w h => List.mem_cons_of_mem _ (inWX6 w h)) hown hK hP 45 at_45 rfl 30 (by decide) (hts _ (List.mem_cons_of_mem _ kw_t3_71)) (fun _ h9 => h9) rfl dX6_take_59 ?_
            refine lv_iload_n hx hb dX6_take_62 rfl (lv_at hl 0 rfl) ?_
            refine va_iald hx hb hK hP 67 0 at_67 rfl (kt_inN ek1 (by omega) (by decide)) dX6_take_63 ?_
            refine lv_topi (fun t_9 et_9 => ?_)
            rw [ek1, nI_clamp (by omega)] at et_9
            obtain rfl : t_7 = t_9 := et_7.trans et_9.symm
            refine va_iast hx hb hK hP (mD_of hD hAc) hS 67 0 at_67 rfl (kt_inN ekp (by omega) (by decide)) dX6_take_64 (fun H locs hP _ hS => ?_)
            obtain ⟨v_10, ev_10⟩ : ∃ z, z = mU w1 67 (upd (w1 67) kp t_7) := ⟨_, rfl⟩
            have hP : va_P (dC, dI) vwCl (mW cI cZ cS cC cJ a v_10) H := by rw [ev_10]; exact mW_put hP (by omega) (by rw [ekp, nI_clamp (by omega)]; rfl)
            have hB := hB.put67 ev_10 (⟨by rw [ex_7, nI_toInt (by omega)]; omega, by rw [ex_7, nI_toInt (by omega)]; omega⟩)
            refine lv_aload_n hx hb dX6_take_65 rfl (lv_at hl 2 rfl) ?_
            refine va_get (D := (dC, dI)) (ci := 6) (v := .ref (a 68)) (C := RX6) (T := TX6) (N := 43) hx hb hts (fun w h => List.mem_cons_of_mem _ (inWX6 w h)) hown hK hP 45 at_45 rfl 31 (by decide) (hts _ (List.mem_cons_of_mem _ kw_t3_72)) (fun _ h9 => h9) rfl dX6_take_66 ?_
            refine lv_iload_n hx hb dX6_take_69 rfl (lv_at hl 1 rfl) ?_
            refine lv_aload_n hx hb dX6_take_70 rfl (lv_at hl 2 rfl) ?_
            refine va_get (D := (dC, dI)) (ci := 6) (v := .ref (a 68)) (C := RX6) (T := TX6) (N := 43) hx hb hts (fun w h => List.mem_cons_of_mem _ (inWX6 w h)) hown hK hP 45 at_45 rfl 31 (by decide) (hts _ (List.mem_cons_of_mem _ kw_t3_72)) (fun _ h9 => h9) rfl dX6_take_71 ?_
            refine lv_iload_n hx hb dX6_take_74 rfl (lv_at hl 0 rfl) ?_
            refine va_iald hx hb hK hP 68 0 at_68 rfl (kt_inN ek1 (by omega) (by decide)) dX6_take_75 ?_
            refine lv_topi (fun t_11 et_11 => ?_)
            rw [ek1, nI_clamp (by omega)] at et_11
            obtain ⟨ix_11, hx_11, ex_11⟩ := kt_idx (x := t_11) (n := 12) (by rw [et_11]; exact (hB.os _ (by omega)).1) (by rw [et_11]; exact (hB.os _ (by omega)).2)
            refine va_iast hx hb hK hP (mD_of hD hAc) hS 68 0 at_68 rfl (kt_inN ekp (by omega) (by decide)) dX6_take_76 (fun H locs hP _ hS => ?_)
            obtain ⟨v_12, ev_12⟩ : ∃ z, z = mU v_10 68 (upd (v_10 68) kp t_11) := ⟨_, rfl⟩
            have hP : va_P (dC, dI) vwCl (mW cI cZ cS cC cJ a v_12) H := by rw [ev_12]; exact mW_put hP (by omega) (by rw [ekp, nI_clamp (by omega)]; rfl)
            have hB := hB.put68 ev_12 (⟨by rw [ex_11, nI_toInt (by omega)]; omega, by rw [ex_11, nI_toInt (by omega)]; omega⟩)
            refine lv_aload_n hx hb dX6_take_77 rfl (lv_at hl 2 rfl) ?_
            refine va_get (D := (dC, dI)) (ci := 6) (v := .ref (a 72)) (C := RX6) (T := TX6) (N := 43) hx hb hts (fun w h => List.mem_cons_of_mem _ (inWX6 w h)) hown hK hP 45 at_45 rfl 35 (by decide) (hts _ (List.mem_cons_of_mem _ kw_t3_76)) (fun _ h9 => h9) rfl dX6_take_78 ?_
            refine lv_iload_n hx hb dX6_take_81 rfl (lv_at hl 1 rfl) ?_
            refine lv_aload_n hx hb dX6_take_82 rfl (lv_at hl 2 rfl) ?_
            refine va_get (D := (dC, dI)) (ci := 6) (v := .ref (a 72)) (C := RX6) (T := TX6) (N := 43) hx hb hts (fun w h => List.mem_cons_of_mem _ (inWX6 w h)) hown hK hP 45 at_45 rfl 35 (by decide) (hts _ (List.mem_cons_of_mem _ kw_t3_76)) (fun _ h9 => h9) rfl dX6_take_83 ?_
            refine lv_iload_n hx hb dX6_take_86 rfl (lv_at hl 0 rfl) ?_
            refine va_zald hx hb hK hP 72 1 at_72 rfl (kt_inN ek1 (by omega) (by decide)) dX6_take_87 ?_
            refine lv_topi (fun t_13 et_13 => ?_)
            rw [ek1, nI_clamp (by omega)] at et_13
            refine va_zast hx hb hK hP (mD_of hD hAc) hS 72 1 at_72 rfl (kt_inN ekp (by omega) (by decide)) dX6_take_88 (fun H locs hP _ hS => ?_)
            obtain ⟨v_14, ev_14⟩ : ∃ z, z = mU v_12 72 (upd (v_12 72) kp (vp_nar .boolean t_13)) := ⟨_, rfl⟩
            have hP : va_P (dC, dI) vwCl (mW cI cZ cS cC cJ a v_14) H := by rw [ev_14]; exact mW_put hP (by omega) (by rw [ekp, nI_clamp (by omega)]; rfl)
            have hB := hB.put ev_14 (by decide)
            refine lv_aload_n hx hb dX6_take_89 rfl (lv_at hl 2 rfl) ?_
            refine va_get (D := (dC, dI)) (ci := 6) (v := .ref (a 69)) (C := RX6) (T := TX6) (N := 43) hx hb hts (fun w h => List.mem_cons_of_mem _ (inWX6 w h)) hown hK hP 45 at_45 rfl 32 (by decide) (hts _ (List.mem_cons_of_mem _ kw_t3_73)) (fun _ h9 => h9) rfl dX6_take_90 ?_
            refine lv_iload_n hx hb dX6_take_93 rfl (lv_at hl 1 rfl) ?_
            refine lv_aload_n hx hb dX6_take_94 rfl (lv_at hl 2 rfl) ?_
            refine va_get (D := (dC, dI)) (ci := 6) (v := .ref (a 69)) (C := RX6) (T := TX6) (N := 43) hx hb hts (fun w h => List.mem_cons_of_mem _ (inWX6 w h)) hown hK hP 45 at_45 rfl 32 (by decide) (hts _ (List.mem_cons_of_mem _ kw_t3_73)) (fun _ h9 => h9) rfl dX6_take_95 ?_
            refine lv_iload_n hx hb dX6_take_98 rfl (lv_at hl 0 rfl) ?_
            refine va_iald hx hb hK hP 69 0 at_69 rfl (kt_inN ek1 (by omega) (by decide)) dX6_take_99 ?_
            refine lv_topi (fun t_15 et_15 => ?_)
            rw [ek1, nI_clamp (by omega)] at et_15
            refine va_iast hx hb hK hP (mD_of hD hAc) hS 69 0 at_69 rfl (kt_inN ekp (by omega) (by decide)) dX6_take_100 (fun H locs hP _ hS => ?_)
            obtain ⟨v_16, ev_16⟩ : ∃ z, z = mU v_14 69 (upd (v_14 69) kp t_15) := ⟨_, rfl⟩
            have hP : va_P (dC, dI) vwCl (mW cI cZ cS cC cJ a v_16) H := by rw [ev_16]; exact mW_put hP (by omega) (by rw [ekp, nI_clamp (by omega)]; rfl)
            have hB := hB.put ev_16 (by decide)
            refine lv_aload_n hx hb dX6_take_101 rfl (lv_at hl 2 rfl) ?_
            refine va_get (D := (dC, dI)) (ci := 6) (v := .ref (a 70)) (C := RX6) (T := TX6) (N := 43) hx hb hts (fun w h => List.mem_cons_of_mem _ (inWX6 w h)) hown hK hP 45 at_45 rfl 33 (by decide) (hts _ (List.mem_cons_of_mem _ kw_t3_74)) (fun _ h9 => h9) rfl dX6_take_102 ?_
            refine lv_iload_n hx hb dX6_take_105 rfl (lv_at hl 1 rfl) ?_
            refine lv_aload_n hx hb dX6_take_106 rfl (lv_at hl 2 rfl) ?_
            refine va_get (D := (dC, dI)) (ci := 6) (v := .ref (a 70)) (C := RX6) (T := TX6) (N := 43) hx hb hts (fun w h => List.mem_cons_of_mem _ (inWX6 w h)) hown hK hP 45 at_45 rfl 33 (by decide) (hts _ (List.mem_cons_of_mem _ kw_t3_74)) (fun _ h9 => h9) rfl dX6_take_107 ?_
            refine lv_iload_n hx hb dX6_take_110 rfl (lv_at hl 0 rfl) ?_
            refine va_iald hx hb hK hP 70 0 at_70 rfl (kt_inN ek1 (by omega) (by decide)) dX6_take_111 ?_
            refine lv_topi (fun t_17 et_17 => ?_)
            rw [ek1, nI_clamp (by omega)] at et_17
            refine va_iast hx hb hK hP (mD_of hD hAc) hS 70 0 at_70 rfl (kt_inN ekp (by omega) (by decide)) dX6_take_112 (fun H locs hP _ hS => ?_)
            obtain ⟨v_18, ev_18⟩ : ∃ z, z = mU v_16 70 (upd (v_16 70) kp t_17) := ⟨_, rfl⟩
            have hP : va_P (dC, dI) vwCl (mW cI cZ cS cC cJ a v_18) H := by rw [ev_18]; exact mW_put hP (by omega) (by rw [ekp, nI_clamp (by omega)]; rfl)
            have hB := hB.put ev_18 (by decide)
            refine lv_aload_n hx hb dX6_take_113 rfl (lv_at hl 2 rfl) ?_
            refine va_get (D := (dC, dI)) (ci := 6) (v := .ref (a 71)) (C := RX6) (T := TX6) (N := 43) hx hb hts (fun w h => List.mem_cons_of_mem _ (inWX6 w h)) hown hK hP 45 at_45 rfl 34 (by decide) (hts _ (List.mem_cons_of_mem _ kw_t3_75)) (fun _ h9 => h9) rfl dX6_take_114 ?_
            refine lv_iload_n hx hb dX6_take_117 rfl (lv_at hl 1 rfl) ?_
            refine lv_aload_n hx hb dX6_take_118 rfl (lv_at hl 2 rfl) ?_
            refine va_get (D := (dC, dI)) (ci := 6) (v := .ref (a 71)) (C := RX6) (T := TX6) (N := 43) hx hb hts (fun w h => List.mem_cons_of_mem _ (inWX6 w h)) hown hK hP 45 at_45 rfl 34 (by decide) (hts _ (List.mem_cons_of_mem _ kw_t3_75)) (fun _ h9 => h9) rfl dX6_take_119 ?_
            refine lv_iload_n hx hb dX6_take_122 rfl (lv_at hl 0 rfl) ?_
            refine va_iald hx hb hK hP 71 0 at_71 rfl (kt_inN ek1 (by omega) (by decide)) dX6_take_123 ?_
            refine lv_topi (fun t_19 et_19 => ?_)
            rw [ek1, nI_clamp (by omega)] at et_19
            refine va_iast hx hb hK hP (mD_of hD hAc) hS 71 0 at_71 rfl (kt_inN ekp (by omega) (by decide)) dX6_take_124 (fun H locs hP _ hS => ?_)
            obtain ⟨v_20, ev_20⟩ : ∃ z, z = mU v_18 71 (upd (v_18 71) kp t_19) := ⟨_, rfl⟩
            have hP : va_P (dC, dI) vwCl (mW cI cZ cS cC cJ a v_20) H := by rw [ev_20]; exact mW_put hP (by omega) (by rw [ekp, nI_clamp (by omega)]; rfl)
            have hB := hB.put ev_20 (by decide)
            obtain ⟨t_21, et_21⟩ : ∃ y : Int32, y = y1_2 + 1 := ⟨_, rfl⟩
            refine lv_iinc (v := t_21) (lv' := [(2, .int t_21), (3, .int k1), (0, .ref (a 45)), (1, .int p0)]) hx hb dX6_take_125 hl (k := 1) rfl (by rw [et_21]; rfl) (by decide) rfl (fun ls hl => ?_)
            obtain ⟨t_22, et_22⟩ : ∃ y : Int32, y = k1 + 1 := ⟨_, rfl⟩
            refine lv_iinc (v := t_22) (lv' := [(3, .int t_22), (2, .int t_21), (0, .ref (a 45)), (1, .int p0)]) hx hb dX6_take_128 hl (k := 1) rfl (by rw [et_22]; rfl) (by decide) rfl (fun ls hl => ?_)
            refine lv_goto (tgt := 14) hx hb dX6_take_131 (by decide) ?_
            have hil2 : (i1 : Int) < (w1 45 3).toInt := by have z := c_4; rw [Int32.le_iff_toInt_le, ek1, nI_toInt (by omega), et_3] at z; omega
            have h45 : v_20 45 = w1 45 := (by rw [ev_20, mU_ne _ _ (by first | decide | omega), ev_18, mU_ne _ _ (by first | decide | omega), ev_16, mU_ne _ _ (by first | decide | omega), ev_14, mU_ne _ _ (by first | decide | omega), ev_12, mU_ne _ _ (by first | decide | omega), ev_10, mU_ne _ _ (by first | decide | omega)])
            have h52 : v_20 52 = w1 52 := (by rw [ev_20, mU_ne _ _ (by first | decide | omega), ev_18, mU_ne _ _ (by first | decide | omega), ev_16, mU_ne _ _ (by first | decide | omega), ev_14, mU_ne _ _ (by first | decide | omega), ev_12, mU_ne _ _ (by first | decide | omega), ev_10, mU_ne _ _ (by first | decide | omega)])
            have h56 : v_20 56 = w1 56 := (by rw [ev_20, mU_ne _ _ (by first | decide | omega), ev_18, mU_ne _ _ (by first | decide | omega), ev_16, mU_ne _ _ (by first | decide | omega), ev_14, mU_ne _ _ (by first | decide | omega), ev_12, mU_ne _ _ (by first | decide | omega), ev_10, mU_ne _ _ (by first | decide | omega)])
            exact ih1 (i1 + 1) t_22 t_21 v_20 _ _ _ (by omega) (by omega) (by rw [et_22, ek1]; exact nI_1 i1) hP hS (lv_sub hl [0, 1, 2, 3] rfl) hB ⟨kp + 1, by rw [et_21, ekp]; exact nI_1 kp, by omega, by rw [h56, h45]; omega, by rw [h45]; omega, by rw [h45]; exact hl5, fun x hx => by rw [h52, h56]; exact hbd x hx⟩
          · refine lv_aload_n hx hb dX6_take_32 rfl (lv_at hl 2 rfl) ?_
            refine va_get (D := (dC, dI)) (ci := 6) (v := .ref (a 69)) (C := RX6) (T := TX6) (N := 43) hx hb hts (fun w h => List.mem_cons_of_mem _ (inWX6 w h)) hown hK hP 45 at_45 rfl 32 (by decide) (hts _ (List.mem_cons_of_mem _ kw_t3_73)) (fun _ h9 => h9) rfl dX6_take_33 ?_
            refine lv_iload_n hx hb dX6_take_36 rfl (lv_at hl 0 rfl) ?_
            refine va_iald hx hb hK hP 69 0 at_69 rfl (kt_inN ek1 (by omega) (by decide)) dX6_take_37 ?_
            refine lv_topi (fun t_24 et_24 => ?_)
            rw [ek1, nI_clamp (by omega)] at et_24
            refine lv_aload_n hx hb dX6_take_38 rfl (lv_at hl 2 rfl) ?_
            refine va_get (D := (dC, dI)) (ci := 6) (v := .int (w1 45 1)) (C := RX6) (T := TX6) (N := 43) hx hb hts (fun w h => List.mem_cons_of_mem _ (inWX6 w h)) hown hK hP 45 at_45 rfl 1 (by decide) (hts _ (List.mem_cons_of_mem _ kw_t3_42)) (fun _ h9 => h9) rfl dX6_take_39 ?_
            refine lv_topi (fun t_25 et_25 => ?_)
            refine lv_icmp_gt (tgt := 53) hx hb dX6_take_42 (by decide) (fun c_26 => ?_) (fun c_26 => ?_)
            · refine lv_aload_n hx hb dX6_take_53 rfl (lv_at hl 2 rfl) ?_
              refine va_get (D := (dC, dI)) (ci := 6) (v := .ref (a 67)) (C := RX6) (T := TX6) (N := 43) hx hb hts (fun w h => List.mem_cons_of_mem _ (inWX6 w h)) hown hK hP 45 at_45 rfl 30 (by decide) (hts _ (List.mem_cons_of_mem _ kw_t3_71)) (fun _ h9 => h9) rfl dX6_take_54 ?_
              refine lv_iload_n hx hb dX6_take_57 rfl (lv_at hl 1 rfl) ?_
              refine lv_aload_n hx hb dX6_take_58 rfl (lv_at hl 2 rfl) ?_
              refine va_get (D := (dC, dI)) (ci := 6) (v := .ref (a 67)) (C := RX6) (T := TX6) (N := 43) hx hb hts (fun w h => List.mem_cons_of_mem _ (inWX6 w h)) hown hK hP 45 at_45 rfl 30 (by decide) (hts _ (List.mem_cons_of_mem _ kw_t3_71)) (fun _ h9 => h9) rfl dX6_take_59 ?_
              refine lv_iload_n hx hb dX6_take_62 rfl (lv_at hl 0 rfl) ?_
              refine va_iald hx hb hK hP 67 0 at_67 rfl (kt_inN ek1 (by omega) (by decide)) dX6_take_63 ?_
              refine lv_topi (fun t_27 et_27 => ?_)
              rw [ek1, nI_clamp (by omega)] at et_27
              obtain rfl : t_7 = t_27 := et_7.trans et_27.symm
              refine va_iast hx hb hK hP (mD_of hD hAc) hS 67 0 at_67 rfl (kt_inN ekp (by omega) (by decide)) dX6_take_64 (fun H locs hP _ hS => ?_)
              obtain ⟨v_28, ev_28⟩ : ∃ z, z = mU w1 67 (upd (w1 67) kp t_7) := ⟨_, rfl⟩
              have hP : va_P (dC, dI) vwCl (mW cI cZ cS cC cJ a v_28) H := by rw [ev_28]; exact mW_put hP (by omega) (by rw [ekp, nI_clamp (by omega)]; rfl)
              have hB := hB.put67 ev_28 (⟨by rw [ex_7, nI_toInt (by omega)]; omega, by rw [ex_7, nI_toInt (by omega)]; omega⟩)
              refine lv_aload_n hx hb dX6_take_65 rfl (lv_at hl 2 rfl) ?_
              refine va_get (D := (dC, dI)) (ci := 6) (v := .ref (a 68)) (C := RX6) (T := TX6) (N := 43) hx hb hts (fun w h => List.mem_cons_of_mem _ (inWX6 w h)) hown hK hP 45 at_45 rfl 31 (by decide) (hts _ (List.mem_cons_of_mem _ kw_t3_72)) (fun _ h9 => h9) rfl dX6_take_66 ?_
              refine lv_iload_n hx hb dX6_take_69 rfl (lv_at hl 1 rfl) ?_
              refine lv_aload_n hx hb dX6_take_70 rfl (lv_at hl 2 rfl) ?_
              refine va_get (D := (dC, dI)) (ci := 6) (v := .ref (a 68)) (C := RX6) (T := TX6) (N := 43) hx hb hts (fun w h => List.mem_cons_of_mem _ (inWX6 w h)) hown hK hP 45 at_45 rfl 31 (by decide) (hts _ (List.mem_cons_of_mem _ kw_t3_72)) (fun _ h9 => h9) rfl dX6_take_71 ?_
              refine lv_iload_n hx hb dX6_take_74 rfl (lv_at hl 0 rfl) ?_
              refine va_iald hx hb hK hP 68 0 at_68 rfl (kt_inN ek1 (by omega) (by decide)) dX6_take_75 ?_
              refine lv_topi (fun t_29 et_29 => ?_)
              rw [ek1, nI_clamp (by omega)] at et_29
              obtain ⟨ix_29, hx_29, ex_29⟩ := kt_idx (x := t_29) (n := 12) (by rw [et_29]; exact (hB.os _ (by omega)).1) (by rw [et_29]; exact (hB.os _ (by omega)).2)
              refine va_iast hx hb hK hP (mD_of hD hAc) hS 68 0 at_68 rfl (kt_inN ekp (by omega) (by decide)) dX6_take_76 (fun H locs hP _ hS => ?_)
              obtain ⟨v_30, ev_30⟩ : ∃ z, z = mU v_28 68 (upd (v_28 68) kp t_29) := ⟨_, rfl⟩
              have hP : va_P (dC, dI) vwCl (mW cI cZ cS cC cJ a v_30) H := by rw [ev_30]; exact mW_put hP (by omega) (by rw [ekp, nI_clamp (by omega)]; rfl)
              have hB := hB.put68 ev_30 (⟨by rw [ex_29, nI_toInt (by omega)]; omega, by rw [ex_29, nI_toInt (by omega)]; omega⟩)
              refine lv_aload_n hx hb dX6_take_77 rfl (lv_at hl 2 rfl) ?_
              refine va_get (D := (dC, dI)) (ci := 6) (v := .ref (a 72)) (C := RX6) (T := TX6) (N := 43) hx hb hts (fun w h => List.mem_cons_of_mem _ (inWX6 w h)) hown hK hP 45 at_45 rfl 35 (by decide) (hts _ (List.mem_cons_of_mem _ kw_t3_76)) (fun _ h9 => h9) rfl dX6_take_78 ?_
              refine lv_iload_n hx hb dX6_take_81 rfl (lv_at hl 1 rfl) ?_
              refine lv_aload_n hx hb dX6_take_82 rfl (lv_at hl 2 rfl) ?_
              refine va_get (D := (dC, dI)) (ci := 6) (v := .ref (a 72)) (C := RX6) (T := TX6) (N := 43) hx hb hts (fun w h => List.mem_cons_of_mem _ (inWX6 w h)) hown hK hP 45 at_45 rfl 35 (by decide) (hts _ (List.mem_cons_of_mem _ kw_t3_76)) (fun _ h9 => h9) rfl dX6_take_83 ?_
              refine lv_iload_n hx hb dX6_take_86 rfl (lv_at hl 0 rfl) ?_
              refine va_zald hx hb hK hP 72 1 at_72 rfl (kt_inN ek1 (by omega) (by decide)) dX6_take_87 ?_
              refine lv_topi (fun t_31 et_31 => ?_)
              rw [ek1, nI_clamp (by omega)] at et_31
              refine va_zast hx hb hK hP (mD_of hD hAc) hS 72 1 at_72 rfl (kt_inN ekp (by omega) (by decide)) dX6_take_88 (fun H locs hP _ hS => ?_)
              obtain ⟨v_32, ev_32⟩ : ∃ z, z = mU v_30 72 (upd (v_30 72) kp (vp_nar .boolean t_31)) := ⟨_, rfl⟩
              have hP : va_P (dC, dI) vwCl (mW cI cZ cS cC cJ a v_32) H := by rw [ev_32]; exact mW_put hP (by omega) (by rw [ekp, nI_clamp (by omega)]; rfl)
              have hB := hB.put ev_32 (by decide)
              refine lv_aload_n hx hb dX6_take_89 rfl (lv_at hl 2 rfl) ?_
              refine va_get (D := (dC, dI)) (ci := 6) (v := .ref (a 69)) (C := RX6) (T := TX6) (N := 43) hx hb hts (fun w h => List.mem_cons_of_mem _ (inWX6 w h)) hown hK hP 45 at_45 rfl 32 (by decide) (hts _ (List.mem_cons_of_mem _ kw_t3_73)) (fun _ h9 => h9) rfl dX6_take_90 ?_
              refine lv_iload_n hx hb dX6_take_93 rfl (lv_at hl 1 rfl) ?_
              refine lv_aload_n hx hb dX6_take_94 rfl (lv_at hl 2 rfl) ?_
              refine va_get (D := (dC, dI)) (ci := 6) (v := .ref (a 69)) (C := RX6) (T := TX6) (N := 43) hx hb hts (fun w h => List.mem_cons_of_mem _ (inWX6 w h)) hown hK hP 45 at_45 rfl 32 (by decide) (hts _ (List.mem_cons_of_mem _ kw_t3_73)) (fun _ h9 => h9) rfl dX6_take_95 ?_
              refine lv_iload_n hx hb dX6_take_98 rfl (lv_at hl 0 rfl) ?_
              refine va_iald hx hb hK hP 69 0 at_69 rfl (kt_inN ek1 (by omega) (by decide)) dX6_take_99 ?_
              refine lv_topi (fun t_33 et_33 => ?_)
              rw [ek1, nI_clamp (by omega)] at et_33
              refine va_iast hx hb hK hP (mD_of hD hAc) hS 69 0 at_69 rfl (kt_inN ekp (by omega) (by decide)) dX6_take_100 (fun H locs hP _ hS => ?_)
              obtain ⟨v_34, ev_34⟩ : ∃ z, z = mU v_32 69 (upd (v_32 69) kp t_33) := ⟨_, rfl⟩
              have hP : va_P (dC, dI) vwCl (mW cI cZ cS cC cJ a v_34) H := by rw [ev_34]; exact mW_put hP (by omega) (by rw [ekp, nI_clamp (by omega)]; rfl)
              have hB := hB.put ev_34 (by decide)
              refine lv_aload_n hx hb dX6_take_101 rfl (lv_at hl 2 rfl) ?_
              refine va_get (D := (dC, dI)) (ci := 6) (v := .ref (a 70)) (C := RX6) (T := TX6) (N := 43) hx hb hts (fun w h => List.mem_cons_of_mem _ (inWX6 w h)) hown hK hP 45 at_45 rfl 33 (by decide) (hts _ (List.mem_cons_of_mem _ kw_t3_74)) (fun _ h9 => h9) rfl dX6_take_102 ?_
              refine lv_iload_n hx hb dX6_take_105 rfl (lv_at hl 1 rfl) ?_
              refine lv_aload_n hx hb dX6_take_106 rfl (lv_at hl 2 rfl) ?_
              refine va_get (D := (dC, dI)) (ci := 6) (v := .ref (a 70)) (C := RX6) (T := TX6) (N := 43) hx hb hts (fun w h => List.mem_cons_of_mem _ (inWX6 w h)) hown hK hP 45 at_45 rfl 33 (by decide) (hts _ (List.mem_cons_of_mem _ kw_t3_74)) (fun _ h9 => h9) rfl dX6_take_107 ?_
              refine lv_iload_n hx hb dX6_take_110 rfl (lv_at hl 0 rfl) ?_
              refine va_iald hx hb hK hP 70 0 at_70 rfl (kt_inN ek1 (by omega) (by decide)) dX6_take_111 ?_
              refine lv_topi (fun t_35 et_35 => ?_)
              rw [ek1, nI_clamp (by omega)] at et_35
              refine va_iast hx hb hK hP (mD_of hD hAc) hS 70 0 at_70 rfl (kt_inN ekp (by omega) (by decide)) dX6_take_112 (fun H locs hP _ hS => ?_)
              obtain ⟨v_36, ev_36⟩ : ∃ z, z = mU v_34 70 (upd (v_34 70) kp t_35) := ⟨_, rfl⟩
              have hP : va_P (dC, dI) vwCl (mW cI cZ cS cC cJ a v_36) H := by rw [ev_36]; exact mW_put hP (by omega) (by rw [ekp, nI_clamp (by omega)]; rfl)
              have hB := hB.put ev_36 (by decide)
              refine lv_aload_n hx hb dX6_take_113 rfl (lv_at hl 2 rfl) ?_
              refine va_get (D := (dC, dI)) (ci := 6) (v := .ref (a 71)) (C := RX6) (T := TX6) (N := 43) hx hb hts (fun w h => List.mem_cons_of_mem _ (inWX6 w h)) hown hK hP 45 at_45 rfl 34 (by decide) (hts _ (List.mem_cons_of_mem _ kw_t3_75)) (fun _ h9 => h9) rfl dX6_take_114 ?_
              refine lv_iload_n hx hb dX6_take_117 rfl (lv_at hl 1 rfl) ?_
              refine lv_aload_n hx hb dX6_take_118 rfl (lv_at hl 2 rfl) ?_
              refine va_get (D := (dC, dI)) (ci := 6) (v := .ref (a 71)) (C := RX6) (T := TX6) (N := 43) hx hb hts (fun w h => List.mem_cons_of_mem _ (inWX6 w h)) hown hK hP 45 at_45 rfl 34 (by decide) (hts _ (List.mem_cons_of_mem _ kw_t3_75)) (fun _ h9 => h9) rfl dX6_take_119 ?_
              refine lv_iload_n hx hb dX6_take_122 rfl (lv_at hl 0 rfl) ?_
              refine va_iald hx hb hK hP 71 0 at_71 rfl (kt_inN ek1 (by omega) (by decide)) dX6_take_123 ?_
              refine lv_topi (fun t_37 et_37 => ?_)
              rw [ek1, nI_clamp (by omega)] at et_37
              refine va_iast hx hb hK hP (mD_of hD hAc) hS 71 0 at_71 rfl (kt_inN ekp (by omega) (by decide)) dX6_take_124 (fun H locs hP _ hS => ?_)
              obtain ⟨v_38, ev_38⟩ : ∃ z, z = mU v_36 71 (upd (v_36 71) kp t_37) := ⟨_, rfl⟩
              have hP : va_P (dC, dI) vwCl (mW cI cZ cS cC cJ a v_38) H := by rw [ev_38]; exact mW_put hP (by omega) (by rw [ekp, nI_clamp (by omega)]; rfl)
              have hB := hB.put ev_38 (by decide)
              obtain ⟨t_39, et_39⟩ : ∃ y : Int32, y = y1_2 + 1 := ⟨_, rfl⟩
              refine lv_iinc (v := t_39) (lv' := [(2, .int t_39), (3, .int k1), (0, .ref (a 45)), (1, .int p0)]) hx hb dX6_take_125 hl (k := 1) rfl (by rw [et_39]; rfl) (by decide) rfl (fun ls hl => ?_)
              obtain ⟨t_40, et_40⟩ : ∃ y : Int32, y = k1 + 1 := ⟨_, rfl⟩
              refine lv_iinc (v := t_40) (lv' := [(3, .int t_40), (2, .int t_39), (0, .ref (a 45)), (1, .int p0)]) hx hb dX6_take_128 hl (k := 1) rfl (by rw [et_40]; rfl) (by decide) rfl (fun ls hl => ?_)
              refine lv_goto (tgt := 14) hx hb dX6_take_131 (by decide) ?_
              have hil2 : (i1 : Int) < (w1 45 3).toInt := by have z := c_4; rw [Int32.le_iff_toInt_le, ek1, nI_toInt (by omega), et_3] at z; omega
              have h45 : v_38 45 = w1 45 := (by rw [ev_38, mU_ne _ _ (by first | decide | omega), ev_36, mU_ne _ _ (by first | decide | omega), ev_34, mU_ne _ _ (by first | decide | omega), ev_32, mU_ne _ _ (by first | decide | omega), ev_30, mU_ne _ _ (by first | decide | omega), ev_28, mU_ne _ _ (by first | decide | omega)])
              have h52 : v_38 52 = w1 52 := (by rw [ev_38, mU_ne _ _ (by first | decide | omega), ev_36, mU_ne _ _ (by first | decide | omega), ev_34, mU_ne _ _ (by first | decide | omega), ev_32, mU_ne _ _ (by first | decide | omega), ev_30, mU_ne _ _ (by first | decide | omega), ev_28, mU_ne _ _ (by first | decide | omega)])
              have h56 : v_38 56 = w1 56 := (by rw [ev_38, mU_ne _ _ (by first | decide | omega), ev_36, mU_ne _ _ (by first | decide | omega), ev_34, mU_ne _ _ (by first | decide | omega), ev_32, mU_ne _ _ (by first | decide | omega), ev_30, mU_ne _ _ (by first | decide | omega), ev_28, mU_ne _ _ (by first | decide | omega)])
              exact ih1 (i1 + 1) t_40 t_39 v_38 _ _ _ (by omega) (by omega) (by rw [et_40, ek1]; exact nI_1 i1) hP hS (lv_sub hl [0, 1, 2, 3] rfl) hB ⟨kp + 1, by rw [et_39, ekp]; exact nI_1 kp, by omega, by rw [h56, h45]; omega, by rw [h45]; omega, by rw [h45]; exact hl5, fun x hx => by rw [h52, h56]; exact hbd x hx⟩
            · refine lv_aload_n hx hb dX6_take_45 rfl (lv_at hl 2 rfl) ?_
              refine lv_iload_n hx hb dX6_take_46 rfl (lv_at hl 0 rfl) ?_
              have hFc := mA_free (a := a) hS hA hAc
              refine va_callv (va_runV (As := [.int k1]) (rest := []) ⟨hx, hb, hml, hown, hts⟩ (c_X6_act l dC dI cI cZ cS cC cJ a w1 H.size k1 hD gn (by omega) hB.self i1 (by omega) ek1 (fun x hx => Int.le_trans (hbd x hx) (bd_le _).2) (by omega)) (cwV 1 hts (gV (fun w h => List.mem_cons_of_mem _ h) kw_t3_220 kw_t3_222 kw_s0_15 kw_t1_7 kw_t3_223) rfl rfl rfl (by decide +kernel) ⟨Nat.le_of_ble_eq_true rfl, Nat.le_of_ble_eq_true rfl⟩) ⟨fun av U g mk q => by obtain ⟨q0, q1, qP, qK, qN⟩ := q; exact ⟨q0, q1, qP, va_K.moved (u := U) (U := U.calling g mk av) (Vm.Alike.refl U.vm) qK, mN_same qN⟩, va_recv hK hP (ci := 6) (q0 := 45) rfl at_45, fun U hU hW => ⟨rfl, by rw [hU], by rw [hU]; exact hP, va_K.moved hW.alike hK, mN_warm hW hN⟩⟩ rfl rfl hl.1 rfl (lv_room (Nat.le_of_ble_eq_true rfl)) dX6_take_47 ⟨Nat.le_of_ble_eq_true rfl, Nat.le_of_ble_eq_true rfl⟩) hS (fun q _ h => hFc q h) hFc (fun v_42 t H locs ht hvm hw_42 hP _ _ hS => ?_)
              have hP := kt_heap2 ht hP
              clear ht hFc
              have hP : va_P (dC, dI) vwCl (mW cI cZ cS cC cJ a v_42) H := hP
              have hB := hB.trans hw_42.1
              refine lv_goto (tgt := 128) hx hb dX6_take_50 (by decide) ?_
              obtain ⟨t_43, et_43⟩ : ∃ y : Int32, y = k1 + 1 := ⟨_, rfl⟩
              refine lv_iinc (v := t_43) (lv' := [(3, .int t_43), (2, .int y1_2), (0, .ref (a 45)), (1, .int p0)]) hx hb dX6_take_128 hl (k := 0) rfl (by rw [et_43]; rfl) (by decide) rfl (fun ls hl => ?_)
              refine lv_goto (tgt := 14) hx hb dX6_take_131 (by decide) ?_
              have hil2 : (i1 : Int) < (w1 45 3).toInt := by have z := c_4; rw [Int32.le_iff_toInt_le, ek1, nI_toInt (by omega), et_3] at z; omega
              have h45 : v_42 45 = w1 45 := (by rw [hw_42.2.1.1])
              have h52 : v_42 52 = w1 52 := (by rw [hw_42.2.1.2])
              exact ih1 (i1 + 1) t_43 y1_2 v_42 _ _ _ (by omega) (by omega) (by rw [et_43, ek1]; exact nI_1 i1) hP hS (lv_sub hl [0, 1, 2, 3] rfl) hB ⟨kp, ekp, by omega, by rw [hw_42.2.2.1, h45]; omega, by rw [h45]; omega, by rw [h45]; exact hl5, fun x hx => by rw [h52]; exact Int.le_trans (hw_42.2.2.2 x hx) (hbd x hx)⟩
    exact key1 (600 + 1) 0 0 0 v _ _ _ (Nat.zero_le _) (by omega) rfl hP hS (lv_sub hl [0, 1, 2, 3] rfl) hB (rK.init hL)
  · rw [hQ9]
    exact W.vret hx hb hr (fun t ht hW => ⟨⟨v, rfl, ⟨hB, hL⟩, kt_heap ht hP⟩, hS.F ht⟩) hS.2.2 dX6_take_9
