set_option maxHeartbeats 4000000 in
set_option maxRecDepth 100000 in
theorem c_X6_write (l : Launch) (dC : Nat → ClassId) (dI : Nat → Nat → Nat) (cI cZ cS cC cJ : ClassId) (a : Nat → Nat) (v : Nat → Nat → Int32) (sz : Nat) (p0 p1 p2 : Int32) (hD : mDD a) (gn : Nat) (hn : gn < 200000) (hB : rB gn v v) (i0 : Nat) (hi0 : i0 < 16) (ei0 : p0 = nI i0) (i1 : Nat) (hi1 : i1 < 12) (ei1 : p1 = nI i1) (B : Nat → Int) (hQ : rQ v B) (hBd : ∀ x, x < 12 → B x ≤ 40) : Met l yX6_write (Cond.code yX6_write cX6_write 4 none :: WW) ({ frames := 1, cells := 0, slots := 0, locals := 30 }) (va_Pc [.ref (a 45), .int p0, .int p1, .int p2] (fun U => U.heap.size = sz ∧ va_P (dC, dI) vwCl (mW cI cZ cS cC cJ a v) U.heap ∧ va_K (dC, dI) vwCl [(cI, .int), (cZ, .boolean), (cS, .object RX3), (cC, .object RX0), (cJ, .long)] U ∧ mN U)) (va_Qv (fun (u : Nat → Nat → Int32) => (rB gn v u) ∧ (rQ u (fun x => if x = i1 then B x + 1 else B x)) ∧ (u 52 = v 52 ∧ u 58 = v 58 ∧ u 46 = v 46)) (fun (u : Nat → Nat → Int32) (t : State) => va_P (dC, dI) vwCl (mW cI cZ cS cC cJ a u) t.heap) (mA a sz)) 0 0 (mA a sz) := by
  refine Met.ofW (cc := cX6_write) (maxL := 4) (ret := none) (by decide) rfl ?_
  intro p e s m args below meth c s₁ B hml hv
  obtain ⟨rfl, hsz, hP, hK, hN⟩ := hv
  have hx := B.exec
  have hb := B.bytes
  have hr := B.returns
  have hts := atoms_spec (ws := Cond.code yX6_write cX6_write 4 none :: WW) B.pre
  have hown : s.vm.findClass RX6 = some m.cls := findClass_of_methodNamed B.named
  have hlocks := B.notSynchronized
  subst hsz
  have hAc : ∀ c, c < 81 → mA a s.heap.size (a c) := fun c h => Or.inl ⟨c, h, rfl⟩
  have hA : ∀ q : Nat, s.heap.size ≤ q → mA a s.heap.size q := fun q h => Or.inr h
  generalize hAe : mA a s.heap.size = A at hAc hA ⊢
  have hS : va_S A s.heap s.heap [] := va_S.rf
  have hl := lv_entry ([.ref (a 45), .int p0, .int p1, .int p2]) (n := 4) (Nat.le_of_ble_eq_true rfl)
  rw [lg_entry_eq]
  generalize (lg_sl ([.ref (a 45), .int p0, .int p1, .int p2]) ++ List.replicate (4 - (lg_sl ([.ref (a 45), .int p0, .int p1, .int p2])).length) Slot.unset).toArray = ls at hl ⊢
  have hl : lv_has ls 4 [(0, .ref (a 45)), (1, .int p0), (2, .int p1), (3, .int p2)] := hl
  refine lv_aload_n hx hb dX6_write_0 rfl (lv_at hl 0 rfl) ?_
  refine va_get (D := (dC, dI)) (ci := 6) (v := .ref (a 67)) (C := RX6) (T := TX6) (N := 43) hx hb hts (fun w h => List.mem_cons_of_mem _ (inWX6 w h)) hown hK hP 45 at_45 rfl 30 (by decide) (hts _ (List.mem_cons_of_mem _ kw_t3_71)) (fun _ h9 => h9) rfl dX6_write_1 ?_
  refine lv_aload_n hx hb dX6_write_4 rfl (lv_at hl 0 rfl) ?_
  refine va_get (D := (dC, dI)) (ci := 6) (v := .int (v 45 3)) (C := RX6) (T := TX6) (N := 43) hx hb hts (fun w h => List.mem_cons_of_mem _ (inWX6 w h)) hown hK hP 45 at_45 rfl 3 (by decide) (hts _ (List.mem_cons_of_mem _ kw_t3_44)) (fun _ h9 => h9) rfl dX6_write_5 ?_
  refine lv_topi (fun t_1 et_1 => ?_)
  have hle_1 : 0 ≤ t_1.toInt ∧ t_1.toInt ≤ 480 := by rw [et_1]; exact ⟨hQ.2.1, Int.le_trans (rQ.le hQ (b := 40) hBd) (by decide)⟩
  refine lv_iload_n hx hb dX6_write_8 rfl (lv_at hl 1 rfl) ?_
  obtain ⟨ix_3, hx_3, ex_3⟩ := kt_idx (x := t_1) (n := 600) (by have z0 := hle_1; (try simp only [Int32.lt_iff_toInt_lt, Int32.le_iff_toInt_le, ← Int32.toInt_inj, L0, L1, L2, L3, L4, L6, L9, L500, L5, L7, L10, L12, L15, L16, L20, L63, L1000, L1023, L2000, L10000, L100000, Lm1] at z0); omega) (by have z0 := hle_1; (try simp only [Int32.lt_iff_toInt_lt, Int32.le_iff_toInt_le, ← Int32.toInt_inj, L0, L1, L2, L3, L4, L6, L9, L500, L5, L7, L10, L12, L15, L16, L20, L63, L1000, L1023, L2000, L10000, L100000, Lm1] at z0); omega)
  refine va_iast hx hb hK hP (mD_of hD hAc) hS 67 0 at_67 rfl (kt_inN ex_3 (by omega) (by decide)) dX6_write_9 (fun H locs hP _ hS => ?_)
  obtain ⟨v_4, ev_4⟩ : ∃ z, z = mU v 67 (upd (v 67) ix_3 p0) := ⟨_, rfl⟩
  have hP : va_P (dC, dI) vwCl (mW cI cZ cS cC cJ a v_4) H := by rw [ev_4]; exact mW_put hP (by omega) (by rw [ex_3, nI_clamp (by omega)]; rfl)
  have hB := hB.put67 ev_4 (⟨by rw [ei0, nI_toInt (by omega)]; omega, by rw [ei0, nI_toInt (by omega)]; omega⟩)
  have hQ := hQ.put ev_4 (by decide)
  refine lv_aload_n hx hb dX6_write_10 rfl (lv_at hl 0 rfl) ?_
  refine va_get (D := (dC, dI)) (ci := 6) (v := .ref (a 68)) (C := RX6) (T := TX6) (N := 43) hx hb hts (fun w h => List.mem_cons_of_mem _ (inWX6 w h)) hown hK hP 45 at_45 rfl 31 (by decide) (hts _ (List.mem_cons_of_mem _ kw_t3_72)) (fun _ h9 => h9) rfl dX6_write_11 ?_
  refine lv_aload_n hx hb dX6_write_14 rfl (lv_at hl 0 rfl) ?_
  refine va_get (D := (dC, dI)) (ci := 6) (v := .int (v_4 45 3)) (C := RX6) (T := TX6) (N := 43) hx hb hts (fun w h => List.mem_cons_of_mem _ (inWX6 w h)) hown hK hP 45 at_45 rfl 3 (by decide) (hts _ (List.mem_cons_of_mem _ kw_t3_44)) (fun _ h9 => h9) rfl dX6_write_15 ?_
  refine lv_topi (fun t_5 et_5 => ?_)
  have hle_5 : 0 ≤ t_5.toInt ∧ t_5.toInt ≤ 480 := by rw [et_5]; exact ⟨hQ.2.1, Int.le_trans (rQ.le hQ (b := 40) hBd) (by decide)⟩
  refine lv_iload_n hx hb dX6_write_18 rfl (lv_at hl 2 rfl) ?_
  obtain ⟨ix_7, hx_7, ex_7⟩ := kt_idx (x := t_5) (n := 600) (by have z0 := hle_1; have z1 := hle_5; (try simp only [Int32.lt_iff_toInt_lt, Int32.le_iff_toInt_le, ← Int32.toInt_inj, L0, L1, L2, L3, L4, L6, L9, L500, L5, L7, L10, L12, L15, L16, L20, L63, L1000, L1023, L2000, L10000, L100000, Lm1] at z0 z1); omega) (by have z0 := hle_1; have z1 := hle_5; (try simp only [Int32.lt_iff_toInt_lt, Int32.le_iff_toInt_le, ← Int32.toInt_inj, L0, L1, L2, L3, L4, L6, L9, L500, L5, L7, L10, L12, L15, L16, L20, L63, L1000, L1023, L2000, L10000, L100000, Lm1] at z0 z1); omega)
  refine va_iast hx hb hK hP (mD_of hD hAc) hS 68 0 at_68 rfl (kt_inN ex_7 (by omega) (by decide)) dX6_write_19 (fun H locs hP _ hS => ?_)
  obtain ⟨v_8, ev_8⟩ : ∃ z, z = mU v_4 68 (upd (v_4 68) ix_7 p1) := ⟨_, rfl⟩
  have hP : va_P (dC, dI) vwCl (mW cI cZ cS cC cJ a v_8) H := by rw [ev_8]; exact mW_put hP (by omega) (by rw [ex_7, nI_clamp (by omega)]; rfl)
  have hB := hB.put68 ev_8 (⟨by rw [ei1, nI_toInt (by omega)]; omega, by rw [ei1, nI_toInt (by omega)]; omega⟩)
  have hQ := hQ.put ev_8 (by decide)
  refine lv_aload_n hx hb dX6_write_20 rfl (lv_at hl 0 rfl) ?_
  refine va_get (D := (dC, dI)) (ci := 6) (v := .ref (a 72)) (C := RX6) (T := TX6) (N := 43) hx hb hts (fun w h => List.mem_cons_of_mem _ (inWX6 w h)) hown hK hP 45 at_45 rfl 35 (by decide) (hts _ (List.mem_cons_of_mem _ kw_t3_76)) (fun _ h9 => h9) rfl dX6_write_21 ?_
  refine lv_aload_n hx hb dX6_write_24 rfl (lv_at hl 0 rfl) ?_
  refine va_get (D := (dC, dI)) (ci := 6) (v := .int (v_8 45 3)) (C := RX6) (T := TX6) (N := 43) hx hb hts (fun w h => List.mem_cons_of_mem _ (inWX6 w h)) hown hK hP 45 at_45 rfl 3 (by decide) (hts _ (List.mem_cons_of_mem _ kw_t3_44)) (fun _ h9 => h9) rfl dX6_write_25 ?_
  refine lv_topi (fun t_9 et_9 => ?_)
  have hle_9 : 0 ≤ t_9.toInt ∧ t_9.toInt ≤ 480 := by rw [et_9]; exact ⟨hQ.2.1, Int.le_trans (rQ.le hQ (b := 40) hBd) (by decide)⟩
  refine lv_iload_n hx hb dX6_write_28 rfl (lv_at hl 3 rfl) ?_
  obtain ⟨ix_11, hx_11, ex_11⟩ := kt_idx (x := t_9) (n := 600) (by have z0 := hle_1; have z1 := hle_5; have z2 := hle_9; (try simp only [Int32.lt_iff_toInt_lt, Int32.le_iff_toInt_le, ← Int32.toInt_inj, L0, L1, L2, L3, L4, L6, L9, L500, L5, L7, L10, L12, L15, L16, L20, L63, L1000, L1023, L2000, L10000, L100000, Lm1] at z0 z1 z2); omega) (by have z0 := hle_1; have z1 := hle_5; have z2 := hle_9; (try simp only [Int32.lt_iff_toInt_lt, Int32.le_iff_toInt_le, ← Int32.toInt_inj, L0, L1, L2, L3, L4, L6, L9, L500, L5, L7, L10, L12, L15, L16, L20, L63, L1000, L1023, L2000, L10000, L100000, Lm1] at z0 z1 z2); omega)
  refine va_zast hx hb hK hP (mD_of hD hAc) hS 72 1 at_72 rfl (kt_inN ex_11 (by omega) (by decide)) dX6_write_29 (fun H locs hP _ hS => ?_)
  obtain ⟨v_12, ev_12⟩ : ∃ z, z = mU v_8 72 (upd (v_8 72) ix_11 (vp_nar .boolean p2)) := ⟨_, rfl⟩
  have hP : va_P (dC, dI) vwCl (mW cI cZ cS cC cJ a v_12) H := by rw [ev_12]; exact mW_put hP (by omega) (by rw [ex_11, nI_clamp (by omega)]; rfl)
  have hB := hB.put ev_12 (by decide)
  have hQ := hQ.put ev_12 (by decide)
  refine lv_aload_n hx hb dX6_write_30 rfl (lv_at hl 0 rfl) ?_
  refine va_get (D := (dC, dI)) (ci := 6) (v := .ref (a 69)) (C := RX6) (T := TX6) (N := 43) hx hb hts (fun w h => List.mem_cons_of_mem _ (inWX6 w h)) hown hK hP 45 at_45 rfl 32 (by decide) (hts _ (List.mem_cons_of_mem _ kw_t3_73)) (fun _ h9 => h9) rfl dX6_write_31 ?_
  refine lv_aload_n hx hb dX6_write_34 rfl (lv_at hl 0 rfl) ?_
  refine va_get (D := (dC, dI)) (ci := 6) (v := .int (v_12 45 3)) (C := RX6) (T := TX6) (N := 43) hx hb hts (fun w h => List.mem_cons_of_mem _ (inWX6 w h)) hown hK hP 45 at_45 rfl 3 (by decide) (hts _ (List.mem_cons_of_mem _ kw_t3_44)) (fun _ h9 => h9) rfl dX6_write_35 ?_
  refine lv_topi (fun t_13 et_13 => ?_)
  have hle_13 : 0 ≤ t_13.toInt ∧ t_13.toInt ≤ 480 := by rw [et_13]; exact ⟨hQ.2.1, Int.le_trans (rQ.le hQ (b := 40) hBd) (by decide)⟩
  refine lv_aload_n hx hb dX6_write_38 rfl (lv_at hl 0 rfl) ?_
  refine va_get (D := (dC, dI)) (ci := 6) (v := .int (v_12 45 1)) (C := RX6) (T := TX6) (N := 43) hx hb hts (fun w h => List.mem_cons_of_mem _ (inWX6 w h)) hown hK hP 45 at_45 rfl 1 (by decide) (hts _ (List.mem_cons_of_mem _ kw_t3_42)) (fun _ h9 => h9) rfl dX6_write_39 ?_
  refine lv_topi (fun t_14 et_14 => ?_)
  refine lv_iconst (v := 1) hx hb dX6_write_42 (by decide) ?_
  refine lv_aload_n hx hb dX6_write_43 rfl (lv_at hl 0 rfl) ?_
  refine va_get (D := (dC, dI)) (ci := 6) (v := .ref (a 64)) (C := RX6) (T := TX6) (N := 43) hx hb hts (fun w h => List.mem_cons_of_mem _ (inWX6 w h)) hown hK hP 45 at_45 rfl 27 (by decide) (hts _ (List.mem_cons_of_mem _ kw_t3_68)) (fun _ h9 => h9) rfl dX6_write_44 ?_
  refine lv_iload_n hx hb dX6_write_47 rfl (lv_at hl 1 rfl) ?_
  refine va_iald hx hb hK hP 64 0 at_64 rfl (kt_inN ei0 (by omega) (by decide)) dX6_write_48 ?_
  refine lv_topi (fun t_15 et_15 => ?_)
  rw [ei0, nI_clamp (by omega)] at et_15
  refine va_mmax hx hb (hml.trans hl.1.symm) hown (hts _ (List.mem_cons_of_mem _ kw_t4_7)) (hts _ (List.mem_cons_of_mem _ kw_t2_40)) (hts _ (List.mem_cons_of_mem _ kw_t1_8)) (hts _ (List.mem_cons_of_mem _ kw_t2_41)) (Nat.le_of_ble_eq_true rfl) (Nat.le_of_ble_eq_true rfl) (Nat.zero_le _) (Nat.zero_le _) dX6_write_49 ?_
  refine lv_topi (fun t_16 et_16 => ?_)
  refine lv_iadd hx hb dX6_write_52 ?_
  refine lv_topi (fun t_17 et_17 => ?_)
  obtain ⟨ix_19, hx_19, ex_19⟩ := kt_idx (x := t_13) (n := 600) (by have z0 := hle_1; have z1 := hle_5; have z2 := hle_9; have z3 := hle_13; (try simp only [Int32.lt_iff_toInt_lt, Int32.le_iff_toInt_le, ← Int32.toInt_inj, L0, L1, L2, L3, L4, L6, L9, L500, L5, L7, L10, L12, L15, L16, L20, L63, L1000, L1023, L2000, L10000, L100000, Lm1] at z0 z1 z2 z3); omega) (by have z0 := hle_1; have z1 := hle_5; have z2 := hle_9; have z3 := hle_13; (try simp only [Int32.lt_iff_toInt_lt, Int32.le_iff_toInt_le, ← Int32.toInt_inj, L0, L1, L2, L3, L4, L6, L9, L500, L5, L7, L10, L12, L15, L16, L20, L63, L1000, L1023, L2000, L10000, L100000, Lm1] at z0 z1 z2 z3); omega)
  refine va_iast hx hb hK hP (mD_of hD hAc) hS 69 0 at_69 rfl (kt_inN ex_19 (by omega) (by decide)) dX6_write_53 (fun H locs hP _ hS => ?_)
  obtain ⟨v_20, ev_20⟩ : ∃ z, z = mU v_12 69 (upd (v_12 69) ix_19 t_17) := ⟨_, rfl⟩
  have hP : va_P (dC, dI) vwCl (mW cI cZ cS cC cJ a v_20) H := by rw [ev_20]; exact mW_put hP (by omega) (by rw [ex_19, nI_clamp (by omega)]; rfl)
  have hB := hB.put ev_20 (by decide)
  have hQ := hQ.put ev_20 (by decide)
  refine lv_aload_n hx hb dX6_write_54 rfl (lv_at hl 0 rfl) ?_
  refine va_get (D := (dC, dI)) (ci := 6) (v := .ref (a 70)) (C := RX6) (T := TX6) (N := 43) hx hb hts (fun w h => List.mem_cons_of_mem _ (inWX6 w h)) hown hK hP 45 at_45 rfl 33 (by decide) (hts _ (List.mem_cons_of_mem _ kw_t3_74)) (fun _ h9 => h9) rfl dX6_write_55 ?_
  refine lv_aload_n hx hb dX6_write_58 rfl (lv_at hl 0 rfl) ?_
  refine va_get (D := (dC, dI)) (ci := 6) (v := .int (v_20 45 3)) (C := RX6) (T := TX6) (N := 43) hx hb hts (fun w h => List.mem_cons_of_mem _ (inWX6 w h)) hown hK hP 45 at_45 rfl 3 (by decide) (hts _ (List.mem_cons_of_mem _ kw_t3_44)) (fun _ h9 => h9) rfl dX6_write_59 ?_
  refine lv_topi (fun t_21 et_21 => ?_)
  have hle_21 : 0 ≤ t_21.toInt ∧ t_21.toInt ≤ 480 := by rw [et_21]; exact ⟨hQ.2.1, Int.le_trans (rQ.le hQ (b := 40) hBd) (by decide)⟩
  refine lv_aload_n hx hb dX6_write_62 rfl (lv_at hl 0 rfl) ?_
  refine va_get (D := (dC, dI)) (ci := 6) (v := .ref (a 50)) (C := RX6) (T := TX6) (N := 43) hx hb hts (fun w h => List.mem_cons_of_mem _ (inWX6 w h)) hown hK hP 45 at_45 rfl 13 (by decide) (hts _ (List.mem_cons_of_mem _ kw_t3_54)) (fun _ h9 => h9) rfl dX6_write_63 ?_
  refine lv_iload_n hx hb dX6_write_66 rfl (lv_at hl 2 rfl) ?_
  refine va_iald hx hb hK hP 50 0 at_50 rfl (kt_inN ei1 (by omega) (by decide)) dX6_write_67 ?_
  refine lv_topi (fun t_22 et_22 => ?_)
  rw [ei1, nI_clamp (by omega)] at et_22
  obtain ⟨ix_24, hx_24, ex_24⟩ := kt_idx (x := t_21) (n := 600) (by have z0 := hle_1; have z1 := hle_5; have z2 := hle_9; have z3 := hle_13; have z4 := hle_21; (try simp only [Int32.lt_iff_toInt_lt, Int32.le_iff_toInt_le, ← Int32.toInt_inj, L0, L1, L2, L3, L4, L6, L9, L500, L5, L7, L10, L12, L15, L16, L20, L63, L1000, L1023, L2000, L10000, L100000, Lm1] at z0 z1 z2 z3 z4); omega) (by have z0 := hle_1; have z1 := hle_5; have z2 := hle_9; have z3 := hle_13; have z4 := hle_21; (try simp only [Int32.lt_iff_toInt_lt, Int32.le_iff_toInt_le, ← Int32.toInt_inj, L0, L1, L2, L3, L4, L6, L9, L500, L5, L7, L10, L12, L15, L16, L20, L63, L1000, L1023, L2000, L10000, L100000, Lm1] at z0 z1 z2 z3 z4); omega)
  refine va_iast hx hb hK hP (mD_of hD hAc) hS 70 0 at_70 rfl (kt_inN ex_24 (by omega) (by decide)) dX6_write_68 (fun H locs hP _ hS => ?_)
  obtain ⟨v_25, ev_25⟩ : ∃ z, z = mU v_20 70 (upd (v_20 70) ix_24 t_22) := ⟨_, rfl⟩
  have hP : va_P (dC, dI) vwCl (mW cI cZ cS cC cJ a v_25) H := by rw [ev_25]; exact mW_put hP (by omega) (by rw [ex_24, nI_clamp (by omega)]; rfl)
  have hB := hB.put ev_25 (by decide)
  have hQ := hQ.put ev_25 (by decide)
  refine lv_aload_n hx hb dX6_write_69 rfl (lv_at hl 0 rfl) ?_
  refine va_get (D := (dC, dI)) (ci := 6) (v := .ref (a 71)) (C := RX6) (T := TX6) (N := 43) hx hb hts (fun w h => List.mem_cons_of_mem _ (inWX6 w h)) hown hK hP 45 at_45 rfl 34 (by decide) (hts _ (List.mem_cons_of_mem _ kw_t3_75)) (fun _ h9 => h9) rfl dX6_write_70 ?_
  refine lv_aload_n hx hb dX6_write_73 rfl (lv_at hl 0 rfl) ?_
  refine va_get (D := (dC, dI)) (ci := 6) (v := .int (v_25 45 3)) (C := RX6) (T := TX6) (N := 43) hx hb hts (fun w h => List.mem_cons_of_mem _ (inWX6 w h)) hown hK hP 45 at_45 rfl 3 (by decide) (hts _ (List.mem_cons_of_mem _ kw_t3_44)) (fun _ h9 => h9) rfl dX6_write_74 ?_
  refine lv_topi (fun t_26 et_26 => ?_)
  have hle_26 : 0 ≤ t_26.toInt ∧ t_26.toInt ≤ 480 := by rw [et_26]; exact ⟨hQ.2.1, Int.le_trans (rQ.le hQ (b := 40) hBd) (by decide)⟩
  refine lv_aload_n hx hb dX6_write_77 rfl (lv_at hl 0 rfl) ?_
  refine va_get (D := (dC, dI)) (ci := 6) (v := .ref (a 51)) (C := RX6) (T := TX6) (N := 43) hx hb hts (fun w h => List.mem_cons_of_mem _ (inWX6 w h)) hown hK hP 45 at_45 rfl 14 (by decide) (hts _ (List.mem_cons_of_mem _ kw_t3_55)) (fun _ h9 => h9) rfl dX6_write_78 ?_
  refine lv_iload_n hx hb dX6_write_81 rfl (lv_at hl 2 rfl) ?_
  refine va_iald hx hb hK hP 51 0 at_51 rfl (kt_inN ei1 (by omega) (by decide)) dX6_write_82 ?_
  refine lv_topi (fun t_27 et_27 => ?_)
  rw [ei1, nI_clamp (by omega)] at et_27
  obtain ⟨ix_29, hx_29, ex_29⟩ := kt_idx (x := t_26) (n := 600) (by have z0 := hle_1; have z1 := hle_5; have z2 := hle_9; have z3 := hle_13; have z4 := hle_21; have z5 := hle_26; (try simp only [Int32.lt_iff_toInt_lt, Int32.le_iff_toInt_le, ← Int32.toInt_inj, L0, L1, L2, L3, L4, L6, L9, L500, L5, L7, L10, L12, L15, L16, L20, L63, L1000, L1023, L2000, L10000, L100000, Lm1] at z0 z1 z2 z3 z4 z5); omega) (by have z0 := hle_1; have z1 := hle_5; have z2 := hle_9; have z3 := hle_13; have z4 := hle_21; have z5 := hle_26; (try simp only [Int32.lt_iff_toInt_lt, Int32.le_iff_toInt_le, ← Int32.toInt_inj, L0, L1, L2, L3, L4, L6, L9, L500, L5, L7, L10, L12, L15, L16, L20, L63, L1000, L1023, L2000, L10000, L100000, Lm1] at z0 z1 z2 z3 z4 z5); omega)
  refine va_iast hx hb hK hP (mD_of hD hAc) hS 71 0 at_71 rfl (kt_inN ex_29 (by omega) (by decide)) dX6_write_83 (fun H locs hP _ hS => ?_)
  obtain ⟨v_30, ev_30⟩ : ∃ z, z = mU v_25 71 (upd (v_25 71) ix_29 t_27) := ⟨_, rfl⟩
  have hP : va_P (dC, dI) vwCl (mW cI cZ cS cC cJ a v_30) H := by rw [ev_30]; exact mW_put hP (by omega) (by rw [ex_29, nI_clamp (by omega)]; rfl)
  have hB := hB.put ev_30 (by decide)
  have hQ := hQ.put ev_30 (by decide)
  refine lv_aload_n hx hb dX6_write_84 rfl (lv_at hl 0 rfl) ?_
  refine lv_dup hx hb dX6_write_85 rfl ?_
  refine va_get (D := (dC, dI)) (ci := 6) (v := .int (v_30 45 3)) (C := RX6) (T := TX6) (N := 43) hx hb hts (fun w h => List.mem_cons_of_mem _ (inWX6 w h)) hown hK hP 45 at_45 rfl 3 (by decide) (hts _ (List.mem_cons_of_mem _ kw_t3_44)) (fun _ h9 => h9) rfl dX6_write_86 ?_
  refine lv_topi (fun t_31 et_31 => ?_)
  have hle_31 : 0 ≤ t_31.toInt ∧ t_31.toInt ≤ 480 := by rw [et_31]; exact ⟨hQ.2.1, Int.le_trans (rQ.le hQ (b := 40) hBd) (by decide)⟩
  refine lv_iconst (v := 1) hx hb dX6_write_89 (by decide) ?_
  refine lv_iadd hx hb dX6_write_90 ?_
  refine lv_topi (fun t_32 et_32 => ?_)
  refine va_put (D := (dC, dI)) (ci := 6) (v := .int t_32) (ty := .int) (C := RX6) (T := TX6) (N := 43) hx hb hts (fun w h => List.mem_cons_of_mem _ (inWX6 w h)) tyX6 tyX6_ok nmX6 hown hK hP (mD_of hD hAc) hS 45 at_45 rfl 3 (by decide) (hts _ (List.mem_cons_of_mem _ kw_t3_44)) (fun _ h9 => h9) rfl (by decide +kernel) rfl rfl (Nat.le_of_ble_eq_true rfl) dX6_write_91 (fun H locs hP _ hS => ?_)
  obtain ⟨v_33, ev_33⟩ : ∃ z, z = mU v_30 45 (upd (v_30 45) 3 t_32) := ⟨_, rfl⟩
  have hP : va_P (dC, dI) vwCl (mW cI cZ cS cC cJ a v_33) H := by rw [ev_33]; exact mW_put hP (by omega) rfl
  have hB := hB.putO ev_33 (by decide)
  refine lv_aload_n hx hb dX6_write_94 rfl (lv_at hl 0 rfl) ?_
  refine va_get (D := (dC, dI)) (ci := 6) (v := .ref (a 56)) (C := RX6) (T := TX6) (N := 43) hx hb hts (fun w h => List.mem_cons_of_mem _ (inWX6 w h)) hown hK hP 45 at_45 rfl 19 (by decide) (hts _ (List.mem_cons_of_mem _ kw_t3_60)) (fun _ h9 => h9) rfl dX6_write_95 ?_
  refine lv_iload_n hx hb dX6_write_98 rfl (lv_at hl 2 rfl) ?_
  refine lv_dup2_11 hx hb dX6_write_99 rfl rfl ?_
  refine va_iald hx hb hK hP 56 0 at_56 rfl (kt_inN ei1 (by omega) (by decide)) dX6_write_100 ?_
  refine lv_topi (fun t_34 et_34 => ?_)
  rw [ei1, nI_clamp (by omega)] at et_34
  refine lv_iconst (v := 1) hx hb dX6_write_101 (by decide) ?_
  refine lv_iadd hx hb dX6_write_102 ?_
  refine lv_topi (fun t_35 et_35 => ?_)
  refine va_iast hx hb hK hP (mD_of hD hAc) hS 56 0 at_56 rfl (kt_inN ei1 (by omega) (by decide)) dX6_write_103 (fun H locs hP _ hS => ?_)
  obtain ⟨v_36, ev_36⟩ : ∃ z, z = mU v_33 56 (upd (v_33 56) i1 t_35) := ⟨_, rfl⟩
  have hP : va_P (dC, dI) vwCl (mW cI cZ cS cC cJ a v_36) H := by rw [ev_36]; exact mW_put hP (by omega) (by rw [ei1, nI_clamp (by omega)]; rfl)
  have hB := hB.put ev_36 (by decide)
  have hQ := hQ.write hBd hi1 ev_33 (by rw [et_32, et_31]) ev_36 (by rw [et_35, et_34])
  exact W.vret hx hb hr (fun t ht hW => ⟨⟨v_36, rfl, ⟨hB, hQ, ⟨(by rw [ev_36, mU_ne _ _ (by first | decide | omega), ev_33, mU_ne _ _ (by first | decide | omega), ev_30, mU_ne _ _ (by first | decide | omega), ev_25, mU_ne _ _ (by first | decide | omega), ev_20, mU_ne _ _ (by first | decide | omega), ev_12, mU_ne _ _ (by first | decide | omega), ev_8, mU_ne _ _ (by first | decide | omega), ev_4, mU_ne _ _ (by first | decide | omega)]), (by rw [ev_36, mU_ne _ _ (by first | decide | omega), ev_33, mU_ne _ _ (by first | decide | omega), ev_30, mU_ne _ _ (by first | decide | omega), ev_25, mU_ne _ _ (by first | decide | omega), ev_20, mU_ne _ _ (by first | decide | omega), ev_12, mU_ne _ _ (by first | decide | omega), ev_8, mU_ne _ _ (by first | decide | omega), ev_4, mU_ne _ _ (by first | decide | omega)]), (by rw [ev_36, mU_ne _ _ (by first | decide | omega), ev_33, mU_ne _ _ (by first | decide | omega), ev_30, mU_ne _ _ (by first | decide | omega), ev_25, mU_ne _ _ (by first | decide | omega), ev_20, mU_ne _ _ (by first | decide | omega), ev_12, mU_ne _ _ (by first | decide | omega), ev_8, mU_ne _ _ (by first | decide | omega), ev_4, mU_ne _ _ (by first | decide | omega)])⟩⟩, kt_heap ht hP⟩, hS.F ht⟩) hS.2.2 dX6_write_104
