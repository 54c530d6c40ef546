set_option maxHeartbeats 4000000 in
set_option maxRecDepth 100000 in
theorem c_J6_bitCount_0f7a4 (l : Launch) (dC : Nat → ClassId) (dI : Nat → Nat → Nat) (cI cZ cS cC cJ : ClassId) (a : Nat → Nat) (v : Nat → Nat → Int32) (sz : Nat) (p0 : Int32) (hD : mDD a) : Met l yJ6_bitCount_0f7a4 (Cond.code yJ6_bitCount_0f7a4 cJ6_bitCount_0f7a4 1 (some .int) :: WW) ({ frames := 0, cells := 0, slots := 0, locals := 0 }) (va_Pc [.int p0] (fun U => U.heap.size = sz ∧ va_P (dC, dI) vwCl (mW cI cZ cS cC cJ a v) U.heap ∧ va_K (dC, dI) vwCl [(cI, .int), (cZ, .boolean), (cS, .object RX3), (cC, .object RX0), (cJ, .long)] U ∧ mN U)) (va_Qi (fun (r : Int32) (_u : Unit) => True) (fun (_ : Unit) (t : State) => va_P (dC, dI) vwCl (mW cI cZ cS cC cJ a v) t.heap) (mA a sz)) 0 0 (mA a sz) := by
  refine Met.ofW (cc := cJ6_bitCount_0f7a4) (maxL := 1) (ret := (some .int)) (by decide) rfl ?_
  intro p e s m args below meth c s₁ B hml hv
  obtain ⟨rfl, hsz, hP, hK, hN⟩ := hv
  have hx := B.exec
  have hb := B.bytes
  have hr := B.returns
  have hts := atoms_spec (ws := Cond.code yJ6_bitCount_0f7a4 cJ6_bitCount_0f7a4 1 (some .int) :: WW) B.pre
  have hown : s.vm.findClass RJ6 = some m.cls := findClass_of_methodNamed B.named
  have hlocks := B.notSynchronized
  subst hsz
  have hAc : ∀ c, c < 81 → mA a s.heap.size (a c) := fun c h => Or.inl ⟨c, h, rfl⟩
  have hA : ∀ q : Nat, s.heap.size ≤ q → mA a s.heap.size q := fun q h => Or.inr h
  generalize hAe : mA a s.heap.size = A at hAc hA ⊢
  have hS : va_S A s.heap s.heap [] := va_S.rf
  have hl := lv_entry ([.int p0]) (n := 1) (Nat.le_of_ble_eq_true rfl)
  rw [lg_entry_eq]
  generalize (lg_sl ([.int p0]) ++ List.replicate (1 - (lg_sl ([.int p0])).length) Slot.unset).toArray = ls at hl ⊢
  have hl : lv_has ls 1 [(0, .int p0)] := hl
  refine lv_iload_n hx hb dJ6_bitCount_0f7a4_0 rfl (lv_at hl 0 rfl) ?_
  refine lv_iload_n hx hb dJ6_bitCount_0f7a4_1 rfl (lv_at hl 0 rfl) ?_
  refine lv_iconst (v := 1) hx hb dJ6_bitCount_0f7a4_2 (by decide) ?_
  refine lv_iushr hx hb dJ6_bitCount_0f7a4_3 rfl ?_
  refine lv_topi (fun t_1 et_1 => ?_)
  refine lv_ldcw (v := 1431655765) hx hb hown (hts _ (List.mem_cons_of_mem _ kw_t2_157)) dJ6_bitCount_0f7a4_4 ?_
  refine lv_iand hx hb dJ6_bitCount_0f7a4_7 ?_
  refine lv_topi (fun t_2 et_2 => ?_)
  refine lv_isub hx hb dJ6_bitCount_0f7a4_8 ?_
  refine lv_topi (fun t_3 et_3 => ?_)
  refine lv_istore_n (lv' := [(0, .int t_3)]) hx hb dJ6_bitCount_0f7a4_9 rfl hl (by decide) rfl (fun ls hl => ?_)
  refine lv_iload_n hx hb dJ6_bitCount_0f7a4_10 rfl (lv_at hl 0 rfl) ?_
  refine lv_ldcw (v := 858993459) hx hb hown (hts _ (List.mem_cons_of_mem _ kw_t2_158)) dJ6_bitCount_0f7a4_11 ?_
  refine lv_iand hx hb dJ6_bitCount_0f7a4_14 ?_
  refine lv_topi (fun t_4 et_4 => ?_)
  refine lv_iload_n hx hb dJ6_bitCount_0f7a4_15 rfl (lv_at hl 0 rfl) ?_
  refine lv_iconst (v := 2) hx hb dJ6_bitCount_0f7a4_16 (by decide) ?_
  refine lv_iushr hx hb dJ6_bitCount_0f7a4_17 rfl ?_
  refine lv_topi (fun t_5 et_5 => ?_)
  refine lv_ldcw (v := 858993459) hx hb hown (hts _ (List.mem_cons_of_mem _ kw_t2_158)) dJ6_bitCount_0f7a4_18 ?_
  refine lv_iand hx hb dJ6_bitCount_0f7a4_21 ?_
  refine lv_topi (fun t_6 et_6 => ?_)
  refine lv_iadd hx hb dJ6_bitCount_0f7a4_22 ?_
  refine lv_topi (fun t_7 et_7 => ?_)
  refine lv_istore_n (lv' := [(0, .int t_7)]) hx hb dJ6_bitCount_0f7a4_23 rfl hl (by decide) rfl (fun ls hl => ?_)
  refine lv_iload_n hx hb dJ6_bitCount_0f7a4_24 rfl (lv_at hl 0 rfl) ?_
  refine lv_iload_n hx hb dJ6_bitCount_0f7a4_25 rfl (lv_at hl 0 rfl) ?_
  refine lv_iconst (v := 4) hx hb dJ6_bitCount_0f7a4_26 (by decide) ?_
  refine lv_iushr hx hb dJ6_bitCount_0f7a4_27 rfl ?_
  refine lv_topi (fun t_8 et_8 => ?_)
  refine lv_iadd hx hb dJ6_bitCount_0f7a4_28 ?_
  refine lv_topi (fun t_9 et_9 => ?_)
  refine lv_ldcw (v := 252645135) hx hb hown (hts _ (List.mem_cons_of_mem _ kw_t2_159)) dJ6_bitCount_0f7a4_29 ?_
  refine lv_iand hx hb dJ6_bitCount_0f7a4_32 ?_
  refine lv_topi (fun t_10 et_10 => ?_)
  refine lv_istore_n (lv' := [(0, .int t_10)]) hx hb dJ6_bitCount_0f7a4_33 rfl hl (by decide) rfl (fun ls hl => ?_)
  refine lv_iload_n hx hb dJ6_bitCount_0f7a4_34 rfl (lv_at hl 0 rfl) ?_
  refine lv_iload_n hx hb dJ6_bitCount_0f7a4_35 rfl (lv_at hl 0 rfl) ?_
  refine lv_bipush (v := 8) hx hb dJ6_bitCount_0f7a4_36 (by decide) ?_
  refine lv_iushr hx hb dJ6_bitCount_0f7a4_38 rfl ?_
  refine lv_topi (fun t_11 et_11 => ?_)
  refine lv_iadd hx hb dJ6_bitCount_0f7a4_39 ?_
  refine lv_topi (fun t_12 et_12 => ?_)
  refine lv_istore_n (lv' := [(0, .int t_12)]) hx hb dJ6_bitCount_0f7a4_40 rfl hl (by decide) rfl (fun ls hl => ?_)
  refine lv_iload_n hx hb dJ6_bitCount_0f7a4_41 rfl (lv_at hl 0 rfl) ?_
  refine lv_iload_n hx hb dJ6_bitCount_0f7a4_42 rfl (lv_at hl 0 rfl) ?_
  refine lv_bipush (v := 16) hx hb dJ6_bitCount_0f7a4_43 (by decide) ?_
  refine lv_iushr hx hb dJ6_bitCount_0f7a4_45 rfl ?_
  refine lv_topi (fun t_13 et_13 => ?_)
  refine lv_iadd hx hb dJ6_bitCount_0f7a4_46 ?_
  refine lv_topi (fun t_14 et_14 => ?_)
  refine lv_istore_n (lv' := [(0, .int t_14)]) hx hb dJ6_bitCount_0f7a4_47 rfl hl (by decide) rfl (fun ls hl => ?_)
  refine lv_iload_n hx hb dJ6_bitCount_0f7a4_48 rfl (lv_at hl 0 rfl) ?_
  refine lv_bipush (v := 63) hx hb dJ6_bitCount_0f7a4_49 (by decide) ?_
  refine lv_iand hx hb dJ6_bitCount_0f7a4_51 ?_
  refine lv_topi (fun t_15 et_15 => ?_)
  exact W.iret (v := t_15) hx hb hr (fun t ht hW => ⟨⟨t_15, (), rfl, trivial, kt_heap ht hP⟩, hS.F ht⟩) hS.2.2 dJ6_bitCount_0f7a4_52

set_option maxHeartbeats 4000000 in
set_option maxRecDepth 100000 in
theorem c_X0_letterCount (l : Launch) (dC : Nat → ClassId) (dI : Nat → Nat → Nat) (cI cZ cS cC cJ : ClassId) (a : Nat → Nat) (v : Nat → Nat → Int32) (sz : Nat) (i : Nat) (hi : i < 12) (hD : mDD a) (hI : kI v v) : Met l yX0_letterCount (Cond.code yX0_letterCount cX0_letterCount 1 (some .int) :: WW) ({ frames := 1, cells := 0, slots := 0, locals := 30 }) (va_Pc [.ref (a (9 + 3 * i))] (fun U => U.heap.size = sz ∧ va_P (dC, dI) vwCl (mW cI cZ cS cC cJ a v) U.heap ∧ va_K (dC, dI) vwCl [(cI, .int), (cZ, .boolean), (cS, .object RX3), (cC, .object RX0), (cJ, .long)] U ∧ mN U)) (va_Qi (fun (r : Int32) (_u : Unit) => True) (fun (_ : Unit) (t : State) => va_P (dC, dI) vwCl (mW cI cZ cS cC cJ a v) t.heap) (mA a sz)) 0 0 (mA a sz) := by
  refine Met.ofW (cc := cX0_letterCount) (maxL := 1) (ret := (some .int)) (by decide) rfl ?_
  intro p e s m args below meth c s₁ B hml hv
  obtain ⟨rfl, hsz, hP, hK, hN⟩ := hv
  have hx := B.exec
  have hb := B.bytes
  have hr := B.returns
  have hts := atoms_spec (ws := Cond.code yX0_letterCount cX0_letterCount 1 (some .int) :: WW) B.pre
  have hown : s.vm.findClass RX0 = some m.cls := findClass_of_methodNamed B.named
  have hlocks := B.notSynchronized
  subst hsz
  have hAc : ∀ c, c < 81 → mA a s.heap.size (a c) := fun c h => Or.inl ⟨c, h, rfl⟩
  have hA : ∀ q : Nat, s.heap.size ≤ q → mA a s.heap.size q := fun q h => Or.inr h
  generalize hAe : mA a s.heap.size = A at hAc hA ⊢
  have hS : va_S A s.heap s.heap [] := va_S.rf
  have hl := lv_entry ([.ref (a (9 + 3 * i))]) (n := 1) (Nat.le_of_ble_eq_true rfl)
  rw [lg_entry_eq]
  generalize (lg_sl ([.ref (a (9 + 3 * i))]) ++ List.replicate (1 - (lg_sl ([.ref (a (9 + 3 * i))])).length) Slot.unset).toArray = ls at hl ⊢
  have hl : lv_has ls 1 [(0, .ref (a (9 + 3 * i)))] := hl
  refine lv_aload_n hx hb dX0_letterCount_0 rfl (lv_at hl 0 rfl) ?_
  refine va_get (D := (dC, dI)) (ci := 0) (v := .int (v (9 + 3 * i) 2)) (C := RX0) (T := TX0) (N := 9) hx hb hts (fun w h => List.mem_cons_of_mem _ (inWX0 w h)) hown hK hP (9 + 3 * i) (at_C hi) rfl 2 (by decide) (hts _ (List.mem_cons_of_mem _ kw_t1_127)) (fun _ h9 => h9) rfl dX0_letterCount_1 ?_
  refine lv_topi (fun t_1 et_1 => ?_)
  have hFc := mA_free (a := a) hS hA hAc
  refine va_calli (va_runS (As := [.int t_1]) (rest := []) ⟨hx, hb, hml, hown, hts⟩ (c_J6_bitCount_0f7a4 l dC dI cI cZ cS cC cJ a v s.heap.size t_1 hD) (va_cwS 1 hts (gS (fun w h => List.mem_cons_of_mem _ h) kw_t2_154 kw_t2_155 kw_t1_9 kw_t2_156) rfl rfl rfl (by decide +kernel) ⟨Nat.le_of_ble_eq_true rfl, Nat.le_of_ble_eq_true rfl⟩) ⟨fun av U g mk q => by obtain ⟨q0, q1, qP, qK, qN⟩ := q; exact ⟨q0, q1, qP, va_K.moved (u := U) (U := U.calling g mk av) (Vm.Alike.refl U.vm) qK, mN_same qN⟩, fun U hU hW => ⟨rfl, by rw [hU], by rw [hU]; exact hP, va_K.moved hW.alike hK, mN_warm hW hN⟩⟩ rfl rfl hl.1 rfl (lv_room (Nat.le_of_ble_eq_true rfl)) dX0_letterCount_4 ⟨Nat.le_of_ble_eq_true rfl, Nat.le_of_ble_eq_true rfl⟩) hS (fun q _ h => hFc q h) hFc (fun r_2 _ t H locs ht hvm hw_2 hP _ _ hS => ?_)
  have hP := kt_heap2 ht hP
  clear ht hFc
  have hP : va_P (dC, dI) vwCl (mW cI cZ cS cC cJ a v) H := hP
  exact W.iret (v := r_2) hx hb hr (fun t ht hW => ⟨⟨r_2, (), rfl, trivial, kt_heap ht hP⟩, hS.F ht⟩) hS.2.2 dX0_letterCount_7

set_option maxHeartbeats 4000000 in
set_option maxRecDepth 100000 in
theorem c_X4_isDirect (l : Launch) (dC : Nat → ClassId) (dI : Nat → Nat → Nat) (cI cZ cS cC cJ : ClassId) (a : Nat → Nat) (v : Nat → Nat → Int32) (sz : Nat) (p0 p1 : Int32) (hD : mDD a) (hI : kI v v) (i0 : Nat) (hi0 : i0 < 12) (ei0 : p0 = nI i0) : Met l yX4_isDirect (Cond.code yX4_isDirect cX4_isDirect 3 (some .boolean) :: WW) ({ frames := 1, cells := 0, slots := 0, locals := 30 }) (va_Pc [.ref (a 3), .int p0, .int p1] (fun U => U.heap.size = sz ∧ va_P (dC, dI) vwCl (mW cI cZ cS cC cJ a v) U.heap ∧ va_K (dC, dI) vwCl [(cI, .int), (cZ, .boolean), (cS, .object RX3), (cC, .object RX0), (cJ, .long)] U ∧ mN U)) (va_Qi (fun (r : Int32) (_u : Unit) => ((r = 0 ∨ r = 1) ∧ ∀ w, w < 16 → p1 = nI w → (r = 1 ↔ dnb (v 4 i0) w))) (fun (_ : Unit) (t : State) => va_P (dC, dI) vwCl (mW cI cZ cS cC cJ a v) t.heap) (mA a sz)) 0 0 (mA a sz) := by
  refine Met.ofW (cc := cX4_isDirect) (maxL := 3) (ret := (some .boolean)) (by decide) rfl ?_
  intro p e s m args below meth c s₁ B hml hv
  obtain ⟨rfl, hsz, hP, hK, hN⟩ := hv
  have hx := B.exec
  have hb := B.bytes
  have hr := B.returns
  have hts := atoms_spec (ws := Cond.code yX4_isDirect cX4_isDirect 3 (some .boolean) :: WW) B.pre
  have hown : s.vm.findClass RX4 = some m.cls := findClass_of_methodNamed B.named
  have hlocks := B.notSynchronized
  subst hsz
  have hAc : ∀ c, c < 81 → mA a s.heap.size (a c) := fun c h => Or.inl ⟨c, h, rfl⟩
  have hA : ∀ q : Nat, s.heap.size ≤ q → mA a s.heap.size q := fun q h => Or.inr h
  generalize hAe : mA a s.heap.size = A at hAc hA ⊢
  have hS : va_S A s.heap s.heap [] := va_S.rf
  have hl := lv_entry ([.ref (a 3), .int p0, .int p1]) (n := 3) (Nat.le_of_ble_eq_true rfl)
  rw [lg_entry_eq]
  generalize (lg_sl ([.ref (a 3), .int p0, .int p1]) ++ List.replicate (3 - (lg_sl ([.ref (a 3), .int p0, .int p1])).length) Slot.unset).toArray = ls at hl ⊢
  have hl : lv_has ls 3 [(0, .ref (a 3)), (1, .int p0), (2, .int p1)] := hl
  refine lv_aload_n hx hb dX4_isDirect_0 rfl (lv_at hl 0 rfl) ?_
  refine va_get (D := (dC, dI)) (ci := 4) (v := .ref (a 4)) (C := RX4) (T := TX4) (N := 1) hx hb hts (fun w h => List.mem_cons_of_mem _ (inWX4 w h)) hown hK hP 3 at_3 rfl 0 (by decide) (hts _ (List.mem_cons_of_mem _ kw_t1_32)) (fun _ h9 => h9) rfl dX4_isDirect_1 ?_
  refine lv_iload_n hx hb dX4_isDirect_4 rfl (lv_at hl 1 rfl) ?_
  refine va_iald hx hb hK hP 4 0 at_4 rfl (kt_inN ei0 (by omega) (by decide)) dX4_isDirect_5 ?_
  refine lv_topi (fun t_1 et_1 => ?_)
  rw [ei0, nI_clamp (by omega)] at et_1
  refine lv_iload_n hx hb dX4_isDirect_6 rfl (lv_at hl 2 rfl) ?_
  have hFc := mA_free (a := a) hS hA hAc
  refine va_calli (va_runSN (As := [.int t_1, .int p1]) (rest := []) ⟨hx, hb, hml, hown, hts⟩ (c_X5_isIn l dC dI cI cZ cS cC cJ a v s.heap.size t_1 p1 hD hI.self) ⟨va_cnB 2 hts (gI (fun w h => List.mem_cons_of_mem _ h) kw_t1_213) rfl rfl rfl hN.2.1 (hts _ (List.mem_cons_of_mem _ kw_t1_1)) (by decide +kernel) ⟨Nat.le_of_ble_eq_true rfl, Nat.le_of_ble_eq_true rfl⟩, (hts _ (List.mem_cons_of_mem _ kw_t1_212)), trivial⟩ ⟨fun av U g mk q => by obtain ⟨q0, q1, qP, qK, qN⟩ := q; exact ⟨q0, q1, qP, va_K.moved (u := U) (U := U.calling g mk av) (Vm.Alike.refl U.vm) qK, mN_same qN⟩, fun U hU hW => ⟨rfl, by rw [hU], by rw [hU]; exact hP, va_K.moved hW.alike hK, mN_warm hW hN⟩⟩ rfl rfl hl.1 rfl (lv_room (Nat.le_of_ble_eq_true rfl)) dX4_isDirect_7 ⟨Nat.le_of_ble_eq_true rfl, Nat.le_of_ble_eq_true rfl⟩) hS (fun q _ h => hFc q h) hFc (fun r_2 _ t H locs ht hvm hw_2 hP _ _ hS => ?_)
  have hP := kt_heap2 ht hP
  clear ht hFc
  have hP : va_P (dC, dI) vwCl (mW cI cZ cS cC cJ a v) H := hP
  rcases hw_2.1 with hz9 | hz9
  · subst hz9
    exact W.zret (v := 0) (ty := .boolean) hx hb hr rfl (fun t ht hW => ⟨⟨0, (), rfl, ⟨Or.inl rfl, fun w hw9 e9 => by rw [← et_1]; exact hw_2.2 w hw9 e9⟩, kt_heap ht hP⟩, hS.F ht⟩) hS.2.2 dX4_isDirect_10
  · subst hz9
    exact W.zret (v := 1) (ty := .boolean) hx hb hr rfl (fun t ht hW => ⟨⟨1, (), rfl, ⟨Or.inr rfl, fun w hw9 e9 => by rw [← et_1]; exact hw_2.2 w hw9 e9⟩, kt_heap ht hP⟩, hS.F ht⟩) hS.2.2 dX4_isDirect_10

set_option maxHeartbeats 4000000 in
set_option maxRecDepth 100000 in
theorem c_X4_put (l : Launch) (dC : Nat → ClassId) (dI : Nat → Nat → Nat) (cI cZ cS cC cJ : ClassId) (a : Nat → Nat) (v : Nat → Nat → Int32) (sz : Nat) (p0 p1 p2 : Int32) (hD : mDD a) (hI : kI v v) (i0 : Nat) (hi0 : i0 < 12) (ei0 : p0 = nI i0) : Met l yX4_put (Cond.code yX4_put cX4_put 5 none :: WW) ({ frames := 0, cells := 0, slots := 0, locals := 0 }) (va_Pc [.ref (a 3), .int p0, .int p1, .int p2] (fun U => U.heap.size = sz ∧ va_P (dC, dI) vwCl (mW cI cZ cS cC cJ a v) U.heap ∧ va_K (dC, dI) vwCl [(cI, .int), (cZ, .boolean), (cS, .object RX3), (cC, .object RX0), (cJ, .long)] U ∧ mN U)) (va_Qv (fun (u : Nat → Nat → Int32) => kH v u ∧ (∃ q, u = mU v 4 (upd (v 4) i0 q) ∧ ∀ w, w < 12 → p1 = nI w → ∀ y, y < 12 → (dnb q y ↔ if y = w then p2 ≠ 0 else dnb (v 4 i0) y))) (fun (u : Nat → Nat → Int32) (t : State) => va_P (dC, dI) vwCl (mW cI cZ cS cC cJ a u) t.heap) (mA a sz)) 0 0 (mA a sz) := by
  refine Met.ofW (cc := cX4_put) (maxL := 5) (ret := none) (by decide) rfl ?_
  intro p e s m args below meth c s₁ B hml hv
  obtain ⟨rfl, hsz, hP, hK, hN⟩ := hv
  have hx := B.exec
  have hb := B.bytes
  have hr := B.returns
  have hts := atoms_spec (ws := Cond.code yX4_put cX4_put 5 none :: WW) B.pre
  have hown : s.vm.findClass RX4 = some m.cls := findClass_of_methodNamed B.named
  have hlocks := B.notSynchronized
  subst hsz
  have hAc : ∀ c, c < 81 → mA a s.heap.size (a c) := fun c h => Or.inl ⟨c, h, rfl⟩
  have hA : ∀ q : Nat, s.heap.size ≤ q → mA a s.heap.size q := fun q h => Or.inr h
  generalize hAe : mA a s.heap.size = A at hAc hA ⊢
  have hS : va_S A s.heap s.heap [] := va_S.rf
  have hl := lv_entry ([.ref (a 3), .int p0, .int p1, .int p2]) (n := 5) (Nat.le_of_ble_eq_true rfl)
  rw [lg_entry_eq]
  generalize (lg_sl ([.ref (a 3), .int p0, .int p1, .int p2]) ++ List.replicate (5 - (lg_sl ([.ref (a 3), .int p0, .int p1, .int p2])).length) Slot.unset).toArray = ls at hl ⊢
  have hl : lv_has ls 5 [(0, .ref (a 3)), (1, .int p0), (2, .int p1), (3, .int p2)] := hl
  have hI := hI.toH
  refine lv_iconst (v := 1) hx hb dX4_put_0 (by decide) ?_
  refine lv_iload_n hx hb dX4_put_1 rfl (lv_at hl 2 rfl) ?_
  refine lv_ishl hx hb dX4_put_2 ?_
  refine lv_topi (fun t_1 et_1 => ?_)
  refine lv_istore (lv' := [(4, .int t_1), (0, .ref (a 3)), (1, .int p0), (2, .int p1), (3, .int p2)]) hx hb dX4_put_3 hl (by decide) rfl (fun ls hl => ?_)
  refine lv_aload_n hx hb dX4_put_5 rfl (lv_at hl 1 rfl) ?_
  refine va_get (D := (dC, dI)) (ci := 4) (v := .ref (a 4)) (C := RX4) (T := TX4) (N := 1) hx hb hts (fun w h => List.mem_cons_of_mem _ (inWX4 w h)) hown hK hP 3 at_3 rfl 0 (by decide) (hts _ (List.mem_cons_of_mem _ kw_t1_32)) (fun _ h9 => h9) rfl dX4_put_6 ?_
  refine lv_iload_n hx hb dX4_put_9 rfl (lv_at hl 2 rfl) ?_
  refine lv_iload_n hx hb dX4_put_10 rfl (lv_at hl 4 rfl) ?_
  refine lv_if_eq (tgt := 26) hx hb dX4_put_11 (by decide) (fun c_2 => ?_) (fun c_2 => ?_)
  · refine lv_aload_n hx hb dX4_put_26 rfl (lv_at hl 1 rfl) ?_
    refine va_get (D := (dC, dI)) (ci := 4) (v := .ref (a 4)) (C := RX4) (T := TX4) (N := 1) hx hb hts (fun w h => List.mem_cons_of_mem _ (inWX4 w h)) hown hK hP 3 at_3 rfl 0 (by decide) (hts _ (List.mem_cons_of_mem _ kw_t1_32)) (fun _ h9 => h9) rfl dX4_put_27 ?_
    refine lv_iload_n hx hb dX4_put_30 rfl (lv_at hl 2 rfl) ?_
    refine va_iald hx hb hK hP 4 0 at_4 rfl (kt_inN ei0 (by omega) (by decide)) dX4_put_31 ?_
    refine lv_topi (fun t_3 et_3 => ?_)
    rw [ei0, nI_clamp (by omega)] at et_3
    refine lv_iload hx hb dX4_put_32 (lv_at hl 0 rfl) ?_
    refine lv_iconst (v := (-1)) hx hb dX4_put_34 (by decide) ?_
    refine lv_ixor hx hb dX4_put_35 ?_
    refine lv_topi (fun t_4 et_4 => ?_)
    refine lv_iand hx hb dX4_put_36 ?_
    refine lv_topi (fun t_5 et_5 => ?_)
    refine va_iast hx hb hK hP (mD_of hD hAc) hS 4 0 at_4 rfl (kt_inN ei0 (by omega) (by decide)) dX4_put_37 (fun H locs hP _ hS => ?_)
    obtain ⟨v_6, ev_6⟩ : ∃ z, z = mU v 4 (upd (v 4) ((p0 : Int32).toNatClampNeg) t_5) := ⟨_, rfl⟩
    have hP : va_P (dC, dI) vwCl (mW cI cZ cS cC cJ a v_6) H := by rw [ev_6]; exact mW_put hP (by omega) rfl
    have hI := hI.put ev_6 (by omega)
    have hq9 : ∀ w, w < 12 → p1 = nI w → ∀ y, y < 12 → (dnb t_5 y ↔ if y = w then p2 ≠ 0 else dnb (v 4 i0) y) := by
      intro w hw9 e9 y hy9
      rw [et_5, et_3, et_4, et_1, e9, dnb_andn (by omega) (by omega)]
      by_cases h9 : y = w
      · rw [if_pos h9]; exact ⟨fun z => absurd h9 z.1, fun z => absurd c_2 z⟩
      · rw [if_neg h9]; exact ⟨fun z => z.2, fun z => ⟨h9, z⟩⟩
    exact W.vret hx hb hr (fun t ht hW => ⟨⟨v_6, rfl, ⟨hI, ⟨t_5, by rw [ev_6, ei0, nI_clamp (by omega)], hq9⟩⟩, kt_heap ht hP⟩, hS.F ht⟩) hS.2.2 dX4_put_38
  · refine lv_aload_n hx hb dX4_put_14 rfl (lv_at hl 1 rfl) ?_
    refine va_get (D := (dC, dI)) (ci := 4) (v := .ref (a 4)) (C := RX4) (T := TX4) (N := 1) hx hb hts (fun w h => List.mem_cons_of_mem _ (inWX4 w h)) hown hK hP 3 at_3 rfl 0 (by decide) (hts _ (List.mem_cons_of_mem _ kw_t1_32)) (fun _ h9 => h9) rfl dX4_put_15 ?_
    refine lv_iload_n hx hb dX4_put_18 rfl (lv_at hl 2 rfl) ?_
    refine va_iald hx hb hK hP 4 0 at_4 rfl (kt_inN ei0 (by omega) (by decide)) dX4_put_19 ?_
    refine lv_topi (fun t_7 et_7 => ?_)
    rw [ei0, nI_clamp (by omega)] at et_7
    refine lv_iload hx hb dX4_put_20 (lv_at hl 0 rfl) ?_
    refine lv_ior hx hb dX4_put_22 ?_
    refine lv_topi (fun t_8 et_8 => ?_)
    refine lv_goto (tgt := 37) hx hb dX4_put_23 (by decide) ?_
    refine va_iast hx hb hK hP (mD_of hD hAc) hS 4 0 at_4 rfl (kt_inN ei0 (by omega) (by decide)) dX4_put_37 (fun H locs hP _ hS => ?_)
    obtain ⟨v_9, ev_9⟩ : ∃ z, z = mU v 4 (upd (v 4) ((p0 : Int32).toNatClampNeg) t_8) := ⟨_, rfl⟩
    have hP : va_P (dC, dI) vwCl (mW cI cZ cS cC cJ a v_9) H := by rw [ev_9]; exact mW_put hP (by omega) rfl
    have hI := hI.put ev_9 (by omega)
    have hq9 : ∀ w, w < 12 → p1 = nI w → ∀ y, y < 12 → (dnb t_8 y ↔ if y = w then p2 ≠ 0 else dnb (v 4 i0) y) := by
      intro w hw9 e9 y hy9
      rw [et_8, et_7, et_1, e9, dnb_or (by omega), dnb_bit (by omega) (by omega)]
      by_cases h9 : y = w
      · rw [if_pos h9]; exact ⟨fun _ => c_2, fun _ => Or.inr h9⟩
      · rw [if_neg h9]; exact ⟨fun z => z.resolve_right h9, Or.inl⟩
    exact W.vret hx hb hr (fun t ht hW => ⟨⟨v_9, rfl, ⟨hI, ⟨t_8, by rw [ev_9, ei0, nI_clamp (by omega)], hq9⟩⟩, kt_heap ht hP⟩, hS.F ht⟩) hS.2.2 dX4_put_38

set_option maxHeartbeats 4000000 in
set_option maxRecDepth 100000 in
theorem c_X4_isReached (l : Launch) (dC : Nat → ClassId) (dI : Nat → Nat → Nat) (cI cZ cS cC cJ : ClassId) (a : Nat → Nat) (v : Nat → Nat → Int32) (sz : Nat) (p0 p1 : Int32) (hD : mDD a) (hI : kI v v) (i0 : Nat) (hi0 : i0 < 12) (ei0 : p0 = nI i0) : Met l yX4_isReached (Cond.code yX4_isReached cX4_isReached 7 (some .boolean) :: WW) ({ frames := 1, cells := 0, slots := 0, locals := 30 }) (va_Pc [.ref (a 3), .int p0, .int p1] (fun U => U.heap.size = sz ∧ va_P (dC, dI) vwCl (mW cI cZ cS cC cJ a v) U.heap ∧ va_K (dC, dI) vwCl [(cI, .int), (cZ, .boolean), (cS, .object RX3), (cC, .object RX0), (cJ, .long)] U ∧ mN U)) (va_Qi (fun (r : Int32) (_u : Unit) => ((r = 0 ∨ r = 1) ∧ ∀ w, w < 12 → p1 = nI w → (r = 1 ↔ Rch (fun x z => dnb (v 4 x) z) i0 w))) (fun (_ : Unit) (t : State) => va_P (dC, dI) vwCl (mW cI cZ cS cC cJ a v) t.heap) (mA a sz)) 0 0 (mA a sz) := by
  refine Met.ofW (cc := cX4_isReached) (maxL := 7) (ret := (some .boolean)) (by decide) rfl ?_
  intro p e s m args below meth c s₁ B hml hv
  obtain ⟨rfl, hsz, hP, hK, hN⟩ := hv
  have hx := B.exec
  have hb := B.bytes
  have hr := B.returns
  have hts := atoms_spec (ws := Cond.code yX4_isReached cX4_isReached 7 (some .boolean) :: WW) B.pre
  have hown : s.vm.findClass RX4 = some m.cls := findClass_of_methodNamed B.named
  have hlocks := B.notSynchronized
  subst hsz
  have hAc : ∀ c, c < 81 → mA a s.heap.size (a c) := fun c h => Or.inl ⟨c, h, rfl⟩
  have hA : ∀ q : Nat, s.heap.size ≤ q → mA a s.heap.size q := fun q h => Or.inr h
  generalize hAe : mA a s.heap.size = A at hAc hA ⊢
  have hS : va_S A s.heap s.heap [] := va_S.rf
  have hl := lv_entry ([.ref (a 3), .int p0, .int p1]) (n := 7) (Nat.le_of_ble_eq_true rfl)
  rw [lg_entry_eq]
  generalize (lg_sl ([.ref (a 3), .int p0, .int p1]) ++ List.replicate (7 - (lg_sl ([.ref (a 3), .int p0, .int p1])).length) Slot.unset).toArray = ls at hl ⊢
  have hl : lv_has ls 7 [(0, .ref (a 3)), (1, .int p0), (2, .int p1)] := hl
  refine kt_absQ (fun Q hQ9 => ?_)
  refine lv_aload_n hx hb dX4_isReached_0 rfl (lv_at hl 0 rfl) ?_
  refine va_get (D := (dC, dI)) (ci := 4) (v := .ref (a 4)) (C := RX4) (T := TX4) (N := 1) hx hb hts (fun w h => List.mem_cons_of_mem _ (inWX4 w h)) hown hK hP 3 at_3 rfl 0 (by decide) (hts _ (List.mem_cons_of_mem _ kw_t1_32)) (fun _ h9 => h9) rfl dX4_isReached_1 ?_
  refine lv_iload_n hx hb dX4_isReached_4 rfl (lv_at hl 1 rfl) ?_
  refine va_iald hx hb hK hP 4 0 at_4 rfl (kt_inN ei0 (by omega) (by decide)) dX4_isReached_5 ?_
  refine lv_topi (fun t_1 et_1 => ?_)
  rw [ei0, nI_clamp (by omega)] at et_1
  refine lv_istore_n (lv' := [(3, .int t_1), (0, .ref (a 3)), (1, .int p0), (2, .int p1)]) hx hb dX4_isReached_6 rfl hl (by decide) rfl (fun ls hl => ?_)
  refine lv_iconst (v := 0) hx hb dX4_isReached_7 (by decide) ?_
  refine lv_istore (lv' := [(4, .int 0), (3, .int t_1), (0, .ref (a 3)), (1, .int p0), (2, .int p1)]) hx hb dX4_isReached_8 hl (by decide) rfl (fun ls hl => ?_)
  refine lv_iconst (v := 0) hx hb dX4_isReached_10 (by decide) ?_
  refine lv_istore (lv' := [(5, .int 0), (4, .int 0), (3, .int t_1), (0, .ref (a 3)), (1, .int p0), (2, .int p1)]) hx hb dX4_isReached_11 hl (by decide) rfl (fun ls hl => ?_)
  have key1 : ∀ (n i1 : Nat) (k1 : Int32) (y1_4 : Int32) (y1_3 : Int32) (H : Heap) (locs : List Loc) (ls : Array Slot), i1 ≤ 12 → 12 - i1 < n → k1 = nI i1 → va_P (dC, dI) vwCl (mW cI cZ cS cC cJ a v) H → va_S A s.heap H locs → lv_has ls 7 [(5, .int k1), (4, .int y1_4), (3, .int y1_3), (0, .ref (a 3)), (1, .int p0), (2, .int p1)] → (jO (v 4) i0 y1_4 y1_3 i1) → W p l e (headSpec (Cond.code yX4_isReached cX4_isReached 7 (some .boolean) :: WW) ({ frames := 1, cells := 0, slots := 0, locals := 30 })).room s m ([.ref (a 3), .int p0, .int p1] : List Value).toArray below meth c H locs 0 0 Q (F0 m 13 ls []) := by
    intro n
    induction n with
    | zero => intro i k y1_4 y1_3 H locs ls h1 h2; exact absurd h2 (by omega)
    | succ n ih1 =>
      intro i1 k1 y1_4 y1_3 H locs ls hi1 hin1 ek1 hP hS hl hJ1
      refine lv_iload hx hb dX4_isReached_13 (lv_at hl 0 rfl) ?_
      refine lv_bipush (v := 12) hx hb dX4_isReached_15 (by decide) ?_
      refine lv_icmp_ge (tgt := 75) hx hb dX4_isReached_17 (by decide) (fun c_2 => ?_) (fun c_2 => ?_)
      · refine lv_iload_n hx hb dX4_isReached_75 rfl (lv_at hl 2 rfl) ?_
        refine lv_iload_n hx hb dX4_isReached_76 rfl (lv_at hl 5 rfl) ?_
        have hFc := mA_free (a := a) hS hA hAc
        refine va_calli (va_runSN (As := [.int y1_3, .int p1]) (rest := []) ⟨hx, hb, hml, hown, hts⟩ (c_X5_isIn l dC dI cI cZ cS cC cJ a v H.size y1_3 p1 hD hI.self) ⟨va_cnB 2 hts (gI (fun w h => List.mem_cons_of_mem _ h) kw_t1_213) rfl rfl rfl hN.2.1 (hts _ (List.mem_cons_of_mem _ kw_t1_1)) (by decide +kernel) ⟨Nat.le_of_ble_eq_true rfl, Nat.le_of_ble_eq_true rfl⟩, (hts _ (List.mem_cons_of_mem _ kw_t1_212)), trivial⟩ ⟨fun av U g mk q => by obtain ⟨q0, q1, qP, qK, qN⟩ := q; exact ⟨q0, q1, qP, va_K.moved (u := U) (U := U.calling g mk av) (Vm.Alike.refl U.vm) qK, mN_same qN⟩, fun U hU hW => ⟨rfl, by rw [hU], by rw [hU]; exact hP, va_K.moved hW.alike hK, mN_warm hW hN⟩⟩ rfl rfl hl.1 rfl (lv_room (Nat.le_of_ble_eq_true rfl)) dX4_isReached_77 ⟨Nat.le_of_ble_eq_true rfl, Nat.le_of_ble_eq_true rfl⟩) hS (fun q _ h => hFc q h) hFc (fun r_3 _ t H locs ht hvm hw_3 hP _ _ hS => ?_)
        have hP := kt_heap2 ht hP
        clear ht hFc
        have hP : va_P (dC, dI) vwCl (mW cI cZ cS cC cJ a v) H := hP
        rcases hw_3.1 with hz9 | hz9
        · subst hz9
          rw [hQ9]
          exact W.zret (v := 0) (ty := .boolean) hx hb hr rfl (fun t ht hW => ⟨⟨0, (), rfl, ⟨Or.inl rfl, fun w hw9 e9 => (hw_3.2 w (by omega) e9).trans (jO.fin hJ1 (jO.cl hJ1 (by have z := c_2; rw [Int32.le_iff_toInt_le, ek1, nI_toInt (by omega), L12] at z; omega)) hw9)⟩, kt_heap ht hP⟩, hS.F ht⟩) hS.2.2 dX4_isReached_80
        · subst hz9
          rw [hQ9]
          exact W.zret (v := 1) (ty := .boolean) hx hb hr rfl (fun t ht hW => ⟨⟨1, (), rfl, ⟨Or.inr rfl, fun w hw9 e9 => (hw_3.2 w (by omega) e9).trans (jO.fin hJ1 (jO.cl hJ1 (by have z := c_2; rw [Int32.le_iff_toInt_le, ek1, nI_toInt (by omega), L12] at z; omega)) hw9)⟩, kt_heap ht hP⟩, hS.F ht⟩) hS.2.2 dX4_isReached_80
      · refine lv_iload_n hx hb dX4_isReached_20 rfl (lv_at hl 2 rfl) ?_
        refine lv_iload hx hb dX4_isReached_21 (lv_at hl 1 rfl) ?_
        refine lv_icmp_eq (tgt := 75) hx hb dX4_isReached_23 (by decide) (fun c_4 => ?_) (fun c_4 => ?_)
        · refine lv_iload_n hx hb dX4_isReached_75 rfl (lv_at hl 2 rfl) ?_
          refine lv_iload_n hx hb dX4_isReached_76 rfl (lv_at hl 5 rfl) ?_
          have hFc := mA_free (a := a) hS hA hAc
          refine va_calli (va_runSN (As := [.int y1_3, .int p1]) (rest := []) ⟨hx, hb, hml, hown, hts⟩ (c_X5_isIn l dC dI cI cZ cS cC cJ a v H.size y1_3 p1 hD hI.self) ⟨va_cnB 2 hts (gI (fun w h => List.mem_cons_of_mem _ h) kw_t1_213) rfl rfl rfl hN.2.1 (hts _ (List.mem_cons_of_mem _ kw_t1_1)) (by decide +kernel) ⟨Nat.le_of_ble_eq_true rfl, Nat.le_of_ble_eq_true rfl⟩, (hts _ (List.mem_cons_of_mem _ kw_t1_212)), trivial⟩ ⟨fun av U g mk q => by obtain ⟨q0, q1, qP, qK, qN⟩ := q; exact ⟨q0, q1, qP, va_K.moved (u := U) (U := U.calling g mk av) (Vm.Alike.refl U.vm) qK, mN_same qN⟩, fun U hU hW => ⟨rfl, by rw [hU], by rw [hU]; exact hP, va_K.moved hW.alike hK, mN_warm hW hN⟩⟩ rfl rfl hl.1 rfl (lv_room (Nat.le_of_ble_eq_true rfl)) dX4_isReached_77 ⟨Nat.le_of_ble_eq_true rfl, Nat.le_of_ble_eq_true rfl⟩) hS (fun q _ h => hFc q h) hFc (fun r_5 _ t H locs ht hvm hw_5 hP _ _ hS => ?_)
          have hP := kt_heap2 ht hP
          clear ht hFc
          have hP : va_P (dC, dI) vwCl (mW cI cZ cS cC cJ a v) H := hP
          rcases hw_5.1 with hz9 | hz9
          · subst hz9
            rw [hQ9]
            exact W.zret (v := 0) (ty := .boolean) hx hb hr rfl (fun t ht hW => ⟨⟨0, (), rfl, ⟨Or.inl rfl, fun w hw9 e9 => (hw_5.2 w (by omega) e9).trans (jO.fin hJ1 (hJ1.2.2.1 c_4) hw9)⟩, kt_heap ht hP⟩, hS.F ht⟩) hS.2.2 dX4_isReached_80
          · subst hz9
            rw [hQ9]
            exact W.zret (v := 1) (ty := .boolean) hx hb hr rfl (fun t ht hW => ⟨⟨1, (), rfl, ⟨Or.inr rfl, fun w hw9 e9 => (hw_5.2 w (by omega) e9).trans (jO.fin hJ1 (hJ1.2.2.1 c_4) hw9)⟩, kt_heap ht hP⟩, hS.F ht⟩) hS.2.2 dX4_isReached_80
        · refine lv_iload_n hx hb dX4_isReached_26 rfl (lv_at hl 2 rfl) ?_
          refine lv_istore (lv' := [(4, .int y1_3), (5, .int k1), (3, .int y1_3), (0, .ref (a 3)), (1, .int p0), (2, .int p1)]) hx hb dX4_isReached_27 hl (by decide) rfl (fun ls hl => ?_)
          refine lv_iconst (v := 0) hx hb dX4_isReached_29 (by decide) ?_
          refine lv_istore (lv' := [(6, .int 0), (4, .int y1_3), (5, .int k1), (3, .int y1_3), (0, .ref (a 3)), (1, .int p0), (2, .int p1)]) hx hb dX4_isReached_30 hl (by decide) rfl (fun ls hl => ?_)
          have hi_6 : i1 < 12 := kt_lt (N := 12) rfl (by decide) ek1 hi1 c_2
          have key2 : ∀ (n i2 : Nat) (k2 : Int32) (y2_3 : Int32) (H : Heap) (locs : List Loc) (ls : Array Slot), i2 ≤ 12 → 12 - i2 < n → k2 = nI i2 → va_P (dC, dI) vwCl (mW cI cZ cS cC cJ a v) H → va_S A s.heap H locs → lv_has ls 7 [(6, .int k2), (4, .int y1_3), (5, .int k1), (3, .int y2_3), (0, .ref (a 3)), (1, .int p0), (2, .int p1)] → (jI (v 4) y1_3 y2_3 i2) → W p l e (headSpec (Cond.code yX4_isReached cX4_isReached 7 (some .boolean) :: WW) ({ frames := 1, cells := 0, slots := 0, locals := 30 })).room s m ([.ref (a 3), .int p0, .int p1] : List Value).toArray below meth c H locs 0 0 Q (F0 m 32 ls []) := by
            intro n
            induction n with
            | zero => intro i k y2_3 H locs ls h1 h2; exact absurd h2 (by omega)
            | succ n ih2 =>
              intro i2 k2 y2_3 H locs ls hi2 hin2 ek2 hP hS hl hJ2
              refine lv_iload hx hb dX4_isReached_32 (lv_at hl 0 rfl) ?_
              refine lv_bipush (v := 12) hx hb dX4_isReached_34 (by decide) ?_
              refine lv_icmp_ge (tgt := 69) hx hb dX4_isReached_36 (by decide) (fun c_7 => ?_) (fun c_7 => ?_)
              · obtain ⟨t_8, et_8⟩ : ∃ y : Int32, y = k1 + 1 := ⟨_, rfl⟩
                refine lv_iinc (v := t_8) (lv' := [(5, .int t_8), (6, .int k2), (4, .int y1_3), (3, .int y2_3), (0, .ref (a 3)), (1, .int p0), (2, .int p1)]) hx hb dX4_isReached_69 hl (k := 2) rfl (by rw [et_8]; rfl) (by decide) rfl (fun ls hl => ?_)
                refine lv_goto (tgt := 13) hx hb dX4_isReached_72 (by decide) ?_
                exact ih1 (i1 + 1) t_8 y1_3 y2_3 _ _ _ (by omega) (by omega) (by rw [et_8, ek1]; exact nI_1 i1) hP hS (lv_sub hl [0, 2, 3, 4, 5, 6] rfl) (jI.done hJ1 hJ2 (by have z := c_7; rw [Int32.le_iff_toInt_le, ek2, nI_toInt (by omega), L12] at z; omega) hi2)
              · refine lv_iload_n hx hb dX4_isReached_39 rfl (lv_at hl 3 rfl) ?_
                refine lv_iload hx hb dX4_isReached_40 (lv_at hl 1 rfl) ?_
                refine lv_iload hx hb dX4_isReached_42 (lv_at hl 0 rfl) ?_
                have hFc := mA_free (a := a) hS hA hAc
                refine va_calli (va_runSN (As := [.int y1_3, .int k2]) (rest := [.int y2_3]) ⟨hx, hb, hml, hown, hts⟩ (c_X5_isIn l dC dI cI cZ cS cC cJ a v H.size y1_3 k2 hD hI.self) ⟨va_cnB 2 hts (gI (fun w h => List.mem_cons_of_mem _ h) kw_t1_213) rfl rfl rfl hN.2.1 (hts _ (List.mem_cons_of_mem _ kw_t1_1)) (by decide +kernel) ⟨Nat.le_of_ble_eq_true rfl, Nat.le_of_ble_eq_true rfl⟩, (hts _ (List.mem_cons_of_mem _ kw_t1_212)), trivial⟩ ⟨fun av U g mk q => by obtain ⟨q0, q1, qP, qK, qN⟩ := q; exact ⟨q0, q1, qP, va_K.moved (u := U) (U := U.calling g mk av) (Vm.Alike.refl U.vm) qK, mN_same qN⟩, fun U hU hW => ⟨rfl, by rw [hU], by rw [hU]; exact hP, va_K.moved hW.alike hK, mN_warm hW hN⟩⟩ rfl rfl hl.1 rfl (lv_room (Nat.le_of_ble_eq_true rfl)) dX4_isReached_44 ⟨Nat.le_of_ble_eq_true rfl, Nat.le_of_ble_eq_true rfl⟩) hS (fun q _ h => hFc q h) hFc (fun r_9 _ t H locs ht hvm hw_9 hP _ _ hS => ?_)
                have hP := kt_heap2 ht hP
                clear ht hFc
                have hP : va_P (dC, dI) vwCl (mW cI cZ cS cC cJ a v) H := hP
                refine lv_if_eq (tgt := 60) hx hb dX4_isReached_47 (by decide) (fun c_10 => ?_) (fun c_10 => ?_)
                · refine lv_iconst (v := 0) hx hb dX4_isReached_60 (by decide) ?_
                  refine lv_ior hx hb dX4_isReached_61 ?_
                  refine lv_topi (fun t_11 et_11 => ?_)
                  refine lv_istore_n (lv' := [(3, .int t_11), (6, .int k2), (4, .int y1_3), (5, .int k1), (0, .ref (a 3)), (1, .int p0), (2, .int p1)]) hx hb dX4_isReached_62 rfl hl (by decide) rfl (fun ls hl => ?_)
                  obtain ⟨t_12, et_12⟩ : ∃ y : Int32, y = k2 + 1 := ⟨_, rfl⟩
                  refine lv_iinc (v := t_12) (lv' := [(6, .int t_12), (3, .int t_11), (4, .int y1_3), (5, .int k1), (0, .ref (a 3)), (1, .int p0), (2, .int p1)]) hx hb dX4_isReached_63 hl (k := 1) rfl (by rw [et_12]; rfl) (by decide) rfl (fun ls hl => ?_)
                  refine lv_goto (tgt := 32) hx hb dX4_isReached_66 (by decide) ?_
                  have hi_13 : i2 < 12 := kt_lt (N := 12) rfl (by decide) ek2 hi2 c_7
                  exact ih2 (i2 + 1) t_12 t_11 _ _ _ (by omega) (by omega) (by rw [et_12, ek2]; exact nI_1 i2) hP hS (lv_sub hl [0, 2, 3, 1, 4, 5, 6] rfl) (jI.no hJ2 (fun z => absurd ((hw_9.2 i2 (by omega) ek2).mpr z) (by rw [c_10]; decide)) et_11)
                · refine lv_aload_n hx hb dX4_isReached_50 rfl (lv_at hl 4 rfl) ?_
                  refine va_get (D := (dC, dI)) (ci := 4) (v := .ref (a 4)) (C := RX4) (T := TX4) (N := 1) hx hb hts (fun w h => List.mem_cons_of_mem _ (inWX4 w h)) hown hK hP 3 at_3 rfl 0 (by decide) (hts _ (List.mem_cons_of_mem _ kw_t1_32)) (fun _ h9 => h9) rfl dX4_isReached_51 ?_
                  refine lv_iload hx hb dX4_isReached_54 (lv_at hl 0 rfl) ?_
                  have hi_14 : i2 < 12 := kt_lt (N := 12) rfl (by decide) ek2 hi2 c_7
                  refine va_iald hx hb hK hP 4 0 at_4 rfl (kt_inN ek2 (by omega) (by decide)) dX4_isReached_56 ?_
                  refine lv_topi (fun t_15 et_15 => ?_)
                  rw [ek2, nI_clamp (by omega)] at et_15
                  refine lv_goto (tgt := 61) hx hb dX4_isReached_57 (by decide) ?_
                  refine lv_ior hx hb dX4_isReached_61 ?_
                  refine lv_topi (fun t_16 et_16 => ?_)
                  refine lv_istore_n (lv' := [(3, .int t_16), (6, .int k2), (4, .int y1_3), (5, .int k1), (0, .ref (a 3)), (1, .int p0), (2, .int p1)]) hx hb dX4_isReached_62 rfl hl (by decide) rfl (fun ls hl => ?_)
                  obtain ⟨t_17, et_17⟩ : ∃ y : Int32, y = k2 + 1 := ⟨_, rfl⟩
                  refine lv_iinc (v := t_17) (lv' := [(6, .int t_17), (3, .int t_16), (4, .int y1_3), (5, .int k1), (0, .ref (a 3)), (1, .int p0), (2, .int p1)]) hx hb dX4_isReached_63 hl (k := 1) rfl (by rw [et_17]; rfl) (by decide) rfl (fun ls hl => ?_)
                  refine lv_goto (tgt := 32) hx hb dX4_isReached_66 (by decide) ?_
                  exact ih2 (i2 + 1) t_17 t_16 _ _ _ (by omega) (by omega) (by rw [et_17, ek2]; exact nI_1 i2) hP hS (lv_sub hl [0, 2, 3, 1, 4, 5, 6] rfl) (jI.yes hJ2 ((hw_9.2 i2 (by omega) ek2).mp (hw_9.1.resolve_left c_10)) (by rw [et_16, et_15]))
          exact key2 (12 + 1) 0 0 y1_3 _ _ _ (Nat.zero_le _) (by omega) rfl hP hS (lv_sub hl [0, 1, 2, 3, 4, 5, 6] rfl) jI.init
  exact key1 (12 + 1) 0 0 0 t_1 _ _ _ (Nat.zero_le _) (by omega) rfl hP hS (lv_sub hl [0, 1, 2, 3, 4, 5] rfl) (by rw [et_1]; exact jO.init)
