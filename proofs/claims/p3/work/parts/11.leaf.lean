set_option maxHeartbeats 4000000 in
set_option maxRecDepth 100000 in
theorem c_X5_isIn (l : Launch) (dC : Nat → ClassId) (dI : Nat → Nat → Nat) (cI cZ cS cC cJ : ClassId) (a : Nat → Nat) (v : Nat → Nat → Int32) (sz : Nat) (p0 p1 : Int32) (hD : mDD a) (hI : kI v v) : Met l yX5_isIn (Cond.code yX5_isIn cX5_isIn 2 (some .boolean) :: WW) ({ frames := 0, cells := 0, slots := 0, locals := 0 }) (va_Pc [.int p0, .int p1] (fun U => U.heap.size = sz ∧ va_P (dC, dI) vwCl (mW cI cZ cS cC cJ a v) U.heap ∧ va_K (dC, dI) vwCl [(cI, .int), (cZ, .boolean), (cS, .object RX3), (cC, .object RX0), (cJ, .long)] U ∧ mN U)) (va_Qi (fun (r : Int32) (_u : Unit) => ((r = 0 ∨ r = 1) ∧ ∀ w, w < 16 → p1 = nI w → (r = 1 ↔ dnb p0 w))) (fun (_ : Unit) (t : State) => va_P (dC, dI) vwCl (mW cI cZ cS cC cJ a v) t.heap) (mA a sz)) 0 0 (mA a sz) := by
  refine Met.ofW (cc := cX5_isIn) (maxL := 2) (ret := (some .boolean)) (by decide) rfl ?_
  intro p e s m args below meth c s₁ B hml hv
  obtain ⟨rfl, hsz, hP, hK, hN⟩ := hv
  have hx := B.exec
  have hb := B.bytes
  have hr := B.returns
  have hts := atoms_spec (ws := Cond.code yX5_isIn cX5_isIn 2 (some .boolean) :: WW) B.pre
  have hown : s.vm.findClass RX5 = some m.cls := findClass_of_methodNamed B.named
  have hlocks := B.notSynchronized
  subst hsz
  have hAc : ∀ c, c < 81 → mA a s.heap.size (a c) := fun c h => Or.inl ⟨c, h, rfl⟩
  have hA : ∀ q : Nat, s.heap.size ≤ q → mA a s.heap.size q := fun q h => Or.inr h
  generalize hAe : mA a s.heap.size = A at hAc hA ⊢
  have hS : va_S A s.heap s.heap [] := va_S.rf
  have hl := lv_entry ([.int p0, .int p1]) (n := 2) (Nat.le_of_ble_eq_true rfl)
  rw [lg_entry_eq]
  generalize (lg_sl ([.int p0, .int p1]) ++ List.replicate (2 - (lg_sl ([.int p0, .int p1])).length) Slot.unset).toArray = ls at hl ⊢
  have hl : lv_has ls 2 [(0, .int p0), (1, .int p1)] := hl
  refine lv_iload_n hx hb dX5_isIn_0 rfl (lv_at hl 1 rfl) ?_
  refine lv_if_lt (tgt := 22) hx hb dX5_isIn_1 (by decide) (fun c_1 => ?_) (fun c_1 => ?_)
  · refine lv_iconst (v := 0) hx hb dX5_isIn_22 (by decide) ?_
    exact W.zret (v := 0) (ty := .boolean) hx hb hr rfl (fun t ht hW => ⟨⟨0, (), rfl, ⟨Or.inl rfl, fun w hw e => absurd c_1 (by rw [e]; simp only [Int32.lt_iff_toInt_lt, Int32.le_iff_toInt_le, nI_toInt (show w < 2 ^ 31 by omega), L0, L16]; omega)⟩, kt_heap ht hP⟩, hS.F ht⟩) hS.2.2 dX5_isIn_23
  · refine lv_iload_n hx hb dX5_isIn_4 rfl (lv_at hl 1 rfl) ?_
    refine lv_bipush (v := 16) hx hb dX5_isIn_5 (by decide) ?_
    refine lv_icmp_ge (tgt := 22) hx hb dX5_isIn_7 (by decide) (fun c_2 => ?_) (fun c_2 => ?_)
    · refine lv_iconst (v := 0) hx hb dX5_isIn_22 (by decide) ?_
      exact W.zret (v := 0) (ty := .boolean) hx hb hr rfl (fun t ht hW => ⟨⟨0, (), rfl, ⟨Or.inl rfl, fun w hw e => absurd c_2 (by rw [e]; simp only [Int32.lt_iff_toInt_lt, Int32.le_iff_toInt_le, nI_toInt (show w < 2 ^ 31 by omega), L0, L16]; omega)⟩, kt_heap ht hP⟩, hS.F ht⟩) hS.2.2 dX5_isIn_23
    · refine lv_iload_n hx hb dX5_isIn_10 rfl (lv_at hl 0 rfl) ?_
      refine lv_iload_n hx hb dX5_isIn_11 rfl (lv_at hl 1 rfl) ?_
      refine lv_ishr hx hb dX5_isIn_12 ?_
      refine lv_topi (fun t_3 et_3 => ?_)
      refine lv_iconst (v := 1) hx hb dX5_isIn_13 (by decide) ?_
      refine lv_iand hx hb dX5_isIn_14 ?_
      refine lv_topi (fun t_4 et_4 => ?_)
      refine lv_if_eq (tgt := 22) hx hb dX5_isIn_15 (by decide) (fun c_5 => ?_) (fun c_5 => ?_)
      · refine lv_iconst (v := 0) hx hb dX5_isIn_22 (by decide) ?_
        exact W.zret (v := 0) (ty := .boolean) hx hb hr rfl (fun t ht hW => ⟨⟨0, (), rfl, ⟨Or.inl rfl, fun w hw e => ⟨fun z => absurd z (by decide), fun z => absurd c_5 (by unfold dnb at z; rw [← e, ← et_3, ← et_4] at z; exact z)⟩⟩, kt_heap ht hP⟩, hS.F ht⟩) hS.2.2 dX5_isIn_23
      · refine lv_iconst (v := 1) hx hb dX5_isIn_18 (by decide) ?_
        refine lv_goto (tgt := 23) hx hb dX5_isIn_19 (by decide) ?_
        exact W.zret (v := 1) (ty := .boolean) hx hb hr rfl (fun t ht hW => ⟨⟨1, (), rfl, ⟨Or.inr rfl, fun w hw e => ⟨fun _ => by unfold dnb; rw [← e, ← et_3, ← et_4]; exact c_5, fun _ => rfl⟩⟩, kt_heap ht hP⟩, hS.F ht⟩) hS.2.2 dX5_isIn_23

set_option maxHeartbeats 4000000 in
set_option maxRecDepth 100000 in
theorem c_X2_isDown (l : Launch) (dC : Nat → ClassId) (dI : Nat → Nat → Nat) (cI cZ cS cC cJ : ClassId) (a : Nat → Nat) (v : Nat → Nat → Int32) (sz : Nat) (p0 : Int32) (hD : mDD a) (hI : kI v v) : Met l yX2_isDown (Cond.code yX2_isDown cX2_isDown 2 (some .boolean) :: WW) ({ frames := 0, cells := 0, slots := 0, locals := 0 }) (va_Pc [.ref (a 5), .int p0] (fun U => U.heap.size = sz ∧ va_P (dC, dI) vwCl (mW cI cZ cS cC cJ a v) U.heap ∧ va_K (dC, dI) vwCl [(cI, .int), (cZ, .boolean), (cS, .object RX3), (cC, .object RX0), (cJ, .long)] U ∧ mN U)) (va_Qi (fun (r : Int32) (_u : Unit) => ((r = 0 ∨ r = 1) ∧ ∀ w, w < 17 → p0 = nI w → (r = 1 ↔ dnb (v 5 1) w))) (fun (_ : Unit) (t : State) => va_P (dC, dI) vwCl (mW cI cZ cS cC cJ a v) t.heap) (mA a sz)) 0 0 (mA a sz) := by
  refine Met.ofW (cc := cX2_isDown) (maxL := 2) (ret := (some .boolean)) (by decide) rfl ?_
  intro p e s m args below meth c s₁ B hml hv
  obtain ⟨rfl, hsz, hP, hK, hN⟩ := hv
  have hx := B.exec
  have hb := B.bytes
  have hr := B.returns
  have hts := atoms_spec (ws := Cond.code yX2_isDown cX2_isDown 2 (some .boolean) :: WW) B.pre
  have hown : s.vm.findClass RX2 = some m.cls := findClass_of_methodNamed B.named
  have hlocks := B.notSynchronized
  subst hsz
  have hAc : ∀ c, c < 81 → mA a s.heap.size (a c) := fun c h => Or.inl ⟨c, h, rfl⟩
  have hA : ∀ q : Nat, s.heap.size ≤ q → mA a s.heap.size q := fun q h => Or.inr h
  generalize hAe : mA a s.heap.size = A at hAc hA ⊢
  have hS : va_S A s.heap s.heap [] := va_S.rf
  have hl := lv_entry ([.ref (a 5), .int p0]) (n := 2) (Nat.le_of_ble_eq_true rfl)
  rw [lg_entry_eq]
  generalize (lg_sl ([.ref (a 5), .int p0]) ++ List.replicate (2 - (lg_sl ([.ref (a 5), .int p0])).length) Slot.unset).toArray = ls at hl ⊢
  have hl : lv_has ls 2 [(0, .ref (a 5)), (1, .int p0)] := hl
  refine lv_iload_n hx hb dX2_isDown_0 rfl (lv_at hl 1 rfl) ?_
  refine lv_if_lt (tgt := 25) hx hb dX2_isDown_1 (by decide) (fun c_1 => ?_) (fun c_1 => ?_)
  · refine lv_iconst (v := 0) hx hb dX2_isDown_25 (by decide) ?_
    exact W.zret (v := 0) (ty := .boolean) hx hb hr rfl (fun t ht hW => ⟨⟨0, (), rfl, ⟨Or.inl rfl, fun w hw e => absurd c_1 (by rw [e, Int32.lt_iff_toInt_lt, nI_toInt (by omega)]; simp only [L0, L16]; omega)⟩, kt_heap ht hP⟩, hS.F ht⟩) hS.2.2 dX2_isDown_26
  · refine lv_iload_n hx hb dX2_isDown_4 rfl (lv_at hl 1 rfl) ?_
    refine lv_bipush (v := 16) hx hb dX2_isDown_5 (by decide) ?_
    refine lv_icmp_gt (tgt := 25) hx hb dX2_isDown_7 (by decide) (fun c_2 => ?_) (fun c_2 => ?_)
    · refine lv_iconst (v := 0) hx hb dX2_isDown_25 (by decide) ?_
      exact W.zret (v := 0) (ty := .boolean) hx hb hr rfl (fun t ht hW => ⟨⟨0, (), rfl, ⟨Or.inl rfl, fun w hw e => absurd c_2 (by rw [e, Int32.lt_iff_toInt_lt, nI_toInt (by omega)]; simp only [L0, L16]; omega)⟩, kt_heap ht hP⟩, hS.F ht⟩) hS.2.2 dX2_isDown_26
    · refine lv_aload_n hx hb dX2_isDown_10 rfl (lv_at hl 0 rfl) ?_
      refine va_get (D := (dC, dI)) (ci := 2) (v := .int (v 5 1)) (C := RX2) (T := TX2) (N := 2) hx hb hts (fun w h => List.mem_cons_of_mem _ (inWX2 w h)) hown hK hP 5 at_5 rfl 1 (by decide) (hts _ (List.mem_cons_of_mem _ kw_t1_47)) (fun _ h9 => h9) rfl dX2_isDown_11 ?_
      refine lv_topi (fun t_3 et_3 => ?_)
      refine lv_iload_n hx hb dX2_isDown_14 rfl (lv_at hl 1 rfl) ?_
      refine lv_ishr hx hb dX2_isDown_15 ?_
      refine lv_topi (fun t_4 et_4 => ?_)
      refine lv_iconst (v := 1) hx hb dX2_isDown_16 (by decide) ?_
      refine lv_iand hx hb dX2_isDown_17 ?_
      refine lv_topi (fun t_5 et_5 => ?_)
      refine lv_if_eq (tgt := 25) hx hb dX2_isDown_18 (by decide) (fun c_6 => ?_) (fun c_6 => ?_)
      · refine lv_iconst (v := 0) hx hb dX2_isDown_25 (by decide) ?_
        exact W.zret (v := 0) (ty := .boolean) hx hb hr rfl (fun t ht hW => ⟨⟨0, (), rfl, ⟨Or.inl rfl, fun w hw e => ⟨fun z => absurd z (by decide), fun z => absurd c_6 (by unfold dnb at z; rw [← e, ← et_3, ← et_4, ← et_5] at z; exact z)⟩⟩, kt_heap ht hP⟩, hS.F ht⟩) hS.2.2 dX2_isDown_26
      · refine lv_iconst (v := 1) hx hb dX2_isDown_21 (by decide) ?_
        refine lv_goto (tgt := 26) hx hb dX2_isDown_22 (by decide) ?_
        exact W.zret (v := 1) (ty := .boolean) hx hb hr rfl (fun t ht hW => ⟨⟨1, (), rfl, ⟨Or.inr rfl, fun w hw e => ⟨fun _ => by unfold dnb; rw [← e, ← et_3, ← et_4, ← et_5]; exact c_6, fun _ => rfl⟩⟩, kt_heap ht hP⟩, hS.F ht⟩) hS.2.2 dX2_isDown_26

set_option maxHeartbeats 4000000 in
set_option maxRecDepth 100000 in
theorem c_X1_isKept (l : Launch) (dC : Nat → ClassId) (dI : Nat → Nat → Nat) (cI cZ cS cC cJ : ClassId) (a : Nat → Nat) (v : Nat → Nat → Int32) (sz : Nat) (p0 : Int32) (hD : mDD a) (hI : kI v v) : Met l yX1_isKept (Cond.code yX1_isKept cX1_isKept 2 (some .boolean) :: WW) ({ frames := 0, cells := 0, slots := 0, locals := 0 }) (va_Pc [.ref (a 7), .int p0] (fun U => U.heap.size = sz ∧ va_P (dC, dI) vwCl (mW cI cZ cS cC cJ a v) U.heap ∧ va_K (dC, dI) vwCl [(cI, .int), (cZ, .boolean), (cS, .object RX3), (cC, .object RX0), (cJ, .long)] U ∧ mN U)) (va_Qi (fun (r : Int32) (_u : Unit) => (r = 0 ∨ (r = 1 ∧ ¬ p0 < 0 ∧ p0 < 500))) (fun (_ : Unit) (t : State) => va_P (dC, dI) vwCl (mW cI cZ cS cC cJ a v) t.heap) (mA a sz)) 0 0 (mA a sz) := by
  refine Met.ofW (cc := cX1_isKept) (maxL := 2) (ret := (some .boolean)) (by decide) rfl ?_
  intro p e s m args below meth c s₁ B hml hv
  obtain ⟨rfl, hsz, hP, hK, hN⟩ := hv
  have hx := B.exec
  have hb := B.bytes
  have hr := B.returns
  have hts := atoms_spec (ws := Cond.code yX1_isKept cX1_isKept 2 (some .boolean) :: WW) B.pre
  have hown : s.vm.findClass RX1 = some m.cls := findClass_of_methodNamed B.named
  have hlocks := B.notSynchronized
  subst hsz
  have hAc : ∀ c, c < 81 → mA a s.heap.size (a c) := fun c h => Or.inl ⟨c, h, rfl⟩
  have hA : ∀ q : Nat, s.heap.size ≤ q → mA a s.heap.size q := fun q h => Or.inr h
  generalize hAe : mA a s.heap.size = A at hAc hA ⊢
  have hS : va_S A s.heap s.heap [] := va_S.rf
  have hl := lv_entry ([.ref (a 7), .int p0]) (n := 2) (Nat.le_of_ble_eq_true rfl)
  rw [lg_entry_eq]
  generalize (lg_sl ([.ref (a 7), .int p0]) ++ List.replicate (2 - (lg_sl ([.ref (a 7), .int p0])).length) Slot.unset).toArray = ls at hl ⊢
  have hl : lv_has ls 2 [(0, .ref (a 7)), (1, .int p0)] := hl
  refine lv_iload_n hx hb dX1_isKept_0 rfl (lv_at hl 1 rfl) ?_
  refine lv_if_lt (tgt := 23) hx hb dX1_isKept_1 (by decide) (fun c_1 => ?_) (fun c_1 => ?_)
  · refine lv_iconst (v := 0) hx hb dX1_isKept_23 (by decide) ?_
    exact W.zret (v := 0) (ty := .boolean) hx hb hr rfl (fun t ht hW => ⟨⟨0, (), rfl, (Or.inl rfl), kt_heap ht hP⟩, hS.F ht⟩) hS.2.2 dX1_isKept_24
  · refine lv_iload_n hx hb dX1_isKept_4 rfl (lv_at hl 1 rfl) ?_
    refine lv_aload_n hx hb dX1_isKept_5 rfl (lv_at hl 0 rfl) ?_
    refine va_get (D := (dC, dI)) (ci := 1) (v := .int (v 7 1)) (C := RX1) (T := TX1) (N := 2) hx hb hts (fun w h => List.mem_cons_of_mem _ (inWX1 w h)) hown hK hP 7 at_7 rfl 1 (by decide) (hts _ (List.mem_cons_of_mem _ kw_t1_62)) (fun _ h9 => h9) rfl dX1_isKept_6 ?_
    refine lv_topi (fun t_2 et_2 => ?_)
    refine lv_icmp_ge (tgt := 23) hx hb dX1_isKept_9 (by decide) (fun c_3 => ?_) (fun c_3 => ?_)
    · refine lv_iconst (v := 0) hx hb dX1_isKept_23 (by decide) ?_
      exact W.zret (v := 0) (ty := .boolean) hx hb hr rfl (fun t ht hW => ⟨⟨0, (), rfl, (Or.inl rfl), kt_heap ht hP⟩, hS.F ht⟩) hS.2.2 dX1_isKept_24
    · refine lv_iload_n hx hb dX1_isKept_12 rfl (lv_at hl 1 rfl) ?_
      refine lv_sipush (v := 500) hx hb dX1_isKept_13 (by decide) ?_
      refine lv_icmp_ge (tgt := 23) hx hb dX1_isKept_16 (by decide) (fun c_4 => ?_) (fun c_4 => ?_)
      · refine lv_iconst (v := 0) hx hb dX1_isKept_23 (by decide) ?_
        exact W.zret (v := 0) (ty := .boolean) hx hb hr rfl (fun t ht hW => ⟨⟨0, (), rfl, (Or.inl rfl), kt_heap ht hP⟩, hS.F ht⟩) hS.2.2 dX1_isKept_24
      · refine lv_iconst (v := 1) hx hb dX1_isKept_19 (by decide) ?_
        refine lv_goto (tgt := 24) hx hb dX1_isKept_20 (by decide) ?_
        exact W.zret (v := 1) (ty := .boolean) hx hb hr rfl (fun t ht hW => ⟨⟨1, (), rfl, (Or.inr ⟨rfl, by have z0 := c_1; have z1 := c_3; have z2 := c_4; simp only [Int32.lt_iff_toInt_lt, Int32.le_iff_toInt_le, L0, L500] at z0 z1 z2 ⊢; omega, by have z0 := c_1; have z1 := c_3; have z2 := c_4; simp only [Int32.lt_iff_toInt_lt, Int32.le_iff_toInt_le, L0, L500] at z0 z1 z2 ⊢; omega⟩), kt_heap ht hP⟩, hS.F ht⟩) hS.2.2 dX1_isKept_24

set_option maxHeartbeats 4000000 in
set_option maxRecDepth 100000 in
theorem c_X0_goesOn (l : Launch) (dC : Nat → ClassId) (dI : Nat → Nat → Nat) (cI cZ cS cC cJ : ClassId) (a : Nat → Nat) (v : Nat → Nat → Int32) (sz : Nat) (i : Nat) (hi : i < 12) (hD : mDD a) (hI : kI v v) : Met l yX0_goesOn (Cond.code yX0_goesOn cX0_goesOn 1 (some .boolean) :: WW) ({ frames := 0, cells := 0, slots := 0, locals := 0 }) (va_Pc [.ref (a (9 + 3 * i))] (fun U => U.heap.size = sz ∧ va_P (dC, dI) vwCl (mW cI cZ cS cC cJ a v) U.heap ∧ va_K (dC, dI) vwCl [(cI, .int), (cZ, .boolean), (cS, .object RX3), (cC, .object RX0), (cJ, .long)] U ∧ mN U)) (va_Qi (fun (r : Int32) (_u : Unit) => (r = 0 ∨ r = 1)) (fun (_ : Unit) (t : State) => va_P (dC, dI) vwCl (mW cI cZ cS cC cJ a v) t.heap) (mA a sz)) 0 0 (mA a sz) := by
  refine Met.ofW (cc := cX0_goesOn) (maxL := 1) (ret := (some .boolean)) (by decide) rfl ?_
  intro p e s m args below meth c s₁ B hml hv
  obtain ⟨rfl, hsz, hP, hK, hN⟩ := hv
  have hx := B.exec
  have hb := B.bytes
  have hr := B.returns
  have hts := atoms_spec (ws := Cond.code yX0_goesOn cX0_goesOn 1 (some .boolean) :: WW) B.pre
  have hown : s.vm.findClass RX0 = some m.cls := findClass_of_methodNamed B.named
  have hlocks := B.notSynchronized
  subst hsz
  have hAc : ∀ c, c < 81 → mA a s.heap.size (a c) := fun c h => Or.inl ⟨c, h, rfl⟩
  have hA : ∀ q : Nat, s.heap.size ≤ q → mA a s.heap.size q := fun q h => Or.inr h
  generalize hAe : mA a s.heap.size = A at hAc hA ⊢
  have hS : va_S A s.heap s.heap [] := va_S.rf
  have hl := lv_entry ([.ref (a (9 + 3 * i))]) (n := 1) (Nat.le_of_ble_eq_true rfl)
  rw [lg_entry_eq]
  generalize (lg_sl ([.ref (a (9 + 3 * i))]) ++ List.replicate (1 - (lg_sl ([.ref (a (9 + 3 * i))])).length) Slot.unset).toArray = ls at hl ⊢
  have hl : lv_has ls 1 [(0, .ref (a (9 + 3 * i)))] := hl
  refine lv_aload_n hx hb dX0_goesOn_0 rfl (lv_at hl 0 rfl) ?_
  refine va_get (D := (dC, dI)) (ci := 0) (v := .int (v (9 + 3 * i) 4)) (C := RX0) (T := TX0) (N := 9) hx hb hts (fun w h => List.mem_cons_of_mem _ (inWX0 w h)) hown hK hP (9 + 3 * i) (at_C hi) rfl 4 (by decide) (hts _ (List.mem_cons_of_mem _ kw_t1_130)) (fun _ h9 => h9) rfl dX0_goesOn_1 ?_
  refine lv_topi (fun t_1 et_1 => ?_)
  refine lv_if_eq (tgt := 11) hx hb dX0_goesOn_4 (by decide) (fun c_2 => ?_) (fun c_2 => ?_)
  · refine lv_iconst (v := 0) hx hb dX0_goesOn_11 (by decide) ?_
    exact W.zret (v := 0) (ty := .boolean) hx hb hr rfl (fun t ht hW => ⟨⟨0, (), rfl, (Or.inl rfl), kt_heap ht hP⟩, hS.F ht⟩) hS.2.2 dX0_goesOn_12
  · refine lv_iconst (v := 1) hx hb dX0_goesOn_7 (by decide) ?_
    refine lv_goto (tgt := 12) hx hb dX0_goesOn_8 (by decide) ?_
    exact W.zret (v := 1) (ty := .boolean) hx hb hr rfl (fun t ht hW => ⟨⟨1, (), rfl, (Or.inr rfl), kt_heap ht hP⟩, hS.F ht⟩) hS.2.2 dX0_goesOn_12

set_option maxHeartbeats 4000000 in
set_option maxRecDepth 100000 in
theorem c_X3_endOfLife (l : Launch) (dC : Nat → ClassId) (dI : Nat → Nat → Nat) (cI cZ cS cC cJ : ClassId) (a : Nat → Nat) (v : Nat → Nat → Int32) (sz : Nat) (i : Nat) (hi : i < 12) (hD : mDD a) (hI : kI v v) : Met l yX3_endOfLife (Cond.code yX3_endOfLife cX3_endOfLife 1 (some .int) :: WW) ({ frames := 0, cells := 0, slots := 0, locals := 0 }) (va_Pc [.ref (a (10 + 3 * i))] (fun U => U.heap.size = sz ∧ va_P (dC, dI) vwCl (mW cI cZ cS cC cJ a v) U.heap ∧ va_K (dC, dI) vwCl [(cI, .int), (cZ, .boolean), (cS, .object RX3), (cC, .object RX0), (cJ, .long)] U ∧ mN U)) (va_Qi (fun (r : Int32) (_u : Unit) => True) (fun (_ : Unit) (t : State) => va_P (dC, dI) vwCl (mW cI cZ cS cC cJ a v) t.heap) (mA a sz)) 0 0 (mA a sz) := by
  refine Met.ofW (cc := cX3_endOfLife) (maxL := 1) (ret := (some .int)) (by decide) rfl ?_
  intro p e s m args below meth c s₁ B hml hv
  obtain ⟨rfl, hsz, hP, hK, hN⟩ := hv
  have hx := B.exec
  have hb := B.bytes
  have hr := B.returns
  have hts := atoms_spec (ws := Cond.code yX3_endOfLife cX3_endOfLife 1 (some .int) :: WW) B.pre
  have hown : s.vm.findClass RX3 = some m.cls := findClass_of_methodNamed B.named
  have hlocks := B.notSynchronized
  subst hsz
  have hAc : ∀ c, c < 81 → mA a s.heap.size (a c) := fun c h => Or.inl ⟨c, h, rfl⟩
  have hA : ∀ q : Nat, s.heap.size ≤ q → mA a s.heap.size q := fun q h => Or.inr h
  generalize hAe : mA a s.heap.size = A at hAc hA ⊢
  have hS : va_S A s.heap s.heap [] := va_S.rf
  have hl := lv_entry ([.ref (a (10 + 3 * i))]) (n := 1) (Nat.le_of_ble_eq_true rfl)
  rw [lg_entry_eq]
  generalize (lg_sl ([.ref (a (10 + 3 * i))]) ++ List.replicate (1 - (lg_sl ([.ref (a (10 + 3 * i))])).length) Slot.unset).toArray = ls at hl ⊢
  have hl : lv_has ls 1 [(0, .ref (a (10 + 3 * i)))] := hl
  refine lv_aload_n hx hb dX3_endOfLife_0 rfl (lv_at hl 0 rfl) ?_
  refine va_get (D := (dC, dI)) (ci := 3) (v := .int (v (10 + 3 * i) 5)) (C := RX3) (T := TX3) (N := 10) hx hb hts (fun w h => List.mem_cons_of_mem _ (inWX3 w h)) hown hK hP (10 + 3 * i) (at_S hi) rfl 5 (by decide) (hts _ (List.mem_cons_of_mem _ kw_t1_94)) (fun _ h9 => h9) rfl dX3_endOfLife_1 ?_
  refine lv_topi (fun t_1 et_1 => ?_)
  refine lv_aload_n hx hb dX3_endOfLife_4 rfl (lv_at hl 0 rfl) ?_
  refine va_get (D := (dC, dI)) (ci := 3) (v := .int (v (10 + 3 * i) 3)) (C := RX3) (T := TX3) (N := 10) hx hb hts (fun w h => List.mem_cons_of_mem _ (inWX3 w h)) hown hK hP (10 + 3 * i) (at_S hi) rfl 3 (by decide) (hts _ (List.mem_cons_of_mem _ kw_t1_89)) (fun _ h9 => h9) rfl dX3_endOfLife_5 ?_
  refine lv_topi (fun t_2 et_2 => ?_)
  refine lv_iadd hx hb dX3_endOfLife_8 ?_
  refine lv_topi (fun t_3 et_3 => ?_)
  exact W.iret (v := t_3) hx hb hr (fun t ht hW => ⟨⟨t_3, (), rfl, trivial, kt_heap ht hP⟩, hS.F ht⟩) hS.2.2 dX3_endOfLife_9

set_option maxHeartbeats 4000000 in
set_option maxRecDepth 100000 in
theorem c_X3_oldestGoodMade (l : Launch) (dC : Nat → ClassId) (dI : Nat → Nat → Nat) (cI cZ cS cC cJ : ClassId) (a : Nat → Nat) (v : Nat → Nat → Int32) (sz : Nat) (i : Nat) (hi : i < 12) (hD : mDD a) (hI : kI v v) : Met l yX3_oldestGoodMade (Cond.code yX3_oldestGoodMade cX3_oldestGoodMade 1 (some .int) :: WW) ({ frames := 0, cells := 0, slots := 0, locals := 0 }) (va_Pc [.ref (a (10 + 3 * i))] (fun U => U.heap.size = sz ∧ va_P (dC, dI) vwCl (mW cI cZ cS cC cJ a v) U.heap ∧ va_K (dC, dI) vwCl [(cI, .int), (cZ, .boolean), (cS, .object RX3), (cC, .object RX0), (cJ, .long)] U ∧ mN U)) (va_Qi (fun (r : Int32) (_u : Unit) => True) (fun (_ : Unit) (t : State) => va_P (dC, dI) vwCl (mW cI cZ cS cC cJ a v) t.heap) (mA a sz)) 0 0 (mA a sz) := by
  refine Met.ofW (cc := cX3_oldestGoodMade) (maxL := 1) (ret := (some .int)) (by decide) rfl ?_
  intro p e s m args below meth c s₁ B hml hv
  obtain ⟨rfl, hsz, hP, hK, hN⟩ := hv
  have hx := B.exec
  have hb := B.bytes
  have hr := B.returns
  have hts := atoms_spec (ws := Cond.code yX3_oldestGoodMade cX3_oldestGoodMade 1 (some .int) :: WW) B.pre
  have hown : s.vm.findClass RX3 = some m.cls := findClass_of_methodNamed B.named
  have hlocks := B.notSynchronized
  subst hsz
  have hAc : ∀ c, c < 81 → mA a s.heap.size (a c) := fun c h => Or.inl ⟨c, h, rfl⟩
  have hA : ∀ q : Nat, s.heap.size ≤ q → mA a s.heap.size q := fun q h => Or.inr h
  generalize hAe : mA a s.heap.size = A at hAc hA ⊢
  have hS : va_S A s.heap s.heap [] := va_S.rf
  have hl := lv_entry ([.ref (a (10 + 3 * i))]) (n := 1) (Nat.le_of_ble_eq_true rfl)
  rw [lg_entry_eq]
  generalize (lg_sl ([.ref (a (10 + 3 * i))]) ++ List.replicate (1 - (lg_sl ([.ref (a (10 + 3 * i))])).length) Slot.unset).toArray = ls at hl ⊢
  have hl : lv_has ls 1 [(0, .ref (a (10 + 3 * i)))] := hl
  refine lv_aload_n hx hb dX3_oldestGoodMade_0 rfl (lv_at hl 0 rfl) ?_
  refine va_get (D := (dC, dI)) (ci := 3) (v := .int (v (10 + 3 * i) 9)) (C := RX3) (T := TX3) (N := 10) hx hb hts (fun w h => List.mem_cons_of_mem _ (inWX3 w h)) hown hK hP (10 + 3 * i) (at_S hi) rfl 9 (by decide) (hts _ (List.mem_cons_of_mem _ kw_t1_101)) (fun _ h9 => h9) rfl dX3_oldestGoodMade_1 ?_
  refine lv_topi (fun t_1 et_1 => ?_)
  refine lv_if_eq (tgt := 14) hx hb dX3_oldestGoodMade_4 (by decide) (fun c_2 => ?_) (fun c_2 => ?_)
  · refine lv_aload_n hx hb dX3_oldestGoodMade_14 rfl (lv_at hl 0 rfl) ?_
    refine va_get (D := (dC, dI)) (ci := 3) (v := .int (v (10 + 3 * i) 5)) (C := RX3) (T := TX3) (N := 10) hx hb hts (fun w h => List.mem_cons_of_mem _ (inWX3 w h)) hown hK hP (10 + 3 * i) (at_S hi) rfl 5 (by decide) (hts _ (List.mem_cons_of_mem _ kw_t1_94)) (fun _ h9 => h9) rfl dX3_oldestGoodMade_15 ?_
    refine lv_topi (fun t_3 et_3 => ?_)
    exact W.iret (v := t_3) hx hb hr (fun t ht hW => ⟨⟨t_3, (), rfl, trivial, kt_heap ht hP⟩, hS.F ht⟩) hS.2.2 dX3_oldestGoodMade_18
  · refine lv_aload_n hx hb dX3_oldestGoodMade_7 rfl (lv_at hl 0 rfl) ?_
    refine va_get (D := (dC, dI)) (ci := 3) (v := .int (v (10 + 3 * i) 6)) (C := RX3) (T := TX3) (N := 10) hx hb hts (fun w h => List.mem_cons_of_mem _ (inWX3 w h)) hown hK hP (10 + 3 * i) (at_S hi) rfl 6 (by decide) (hts _ (List.mem_cons_of_mem _ kw_t1_96)) (fun _ h9 => h9) rfl dX3_oldestGoodMade_8 ?_
    refine lv_topi (fun t_4 et_4 => ?_)
    refine lv_goto (tgt := 18) hx hb dX3_oldestGoodMade_11 (by decide) ?_
    exact W.iret (v := t_4) hx hb hr (fun t ht hW => ⟨⟨t_4, (), rfl, trivial, kt_heap ht hP⟩, hS.F ht⟩) hS.2.2 dX3_oldestGoodMade_18

set_option maxHeartbeats 4000000 in
set_option maxRecDepth 100000 in
theorem c_X3_lockedOut (l : Launch) (dC : Nat → ClassId) (dI : Nat → Nat → Nat) (cI cZ cS cC cJ : ClassId) (a : Nat → Nat) (v : Nat → Nat → Int32) (sz : Nat) (i : Nat) (hi : i < 12) (hD : mDD a) (hI : kI v v) : Met l yX3_lockedOut (Cond.code yX3_lockedOut cX3_lockedOut 3 (some .int) :: WW) ({ frames := 0, cells := 0, slots := 0, locals := 0 }) (va_Pc [.ref (a (10 + 3 * i))] (fun U => U.heap.size = sz ∧ va_P (dC, dI) vwCl (mW cI cZ cS cC cJ a v) U.heap ∧ va_K (dC, dI) vwCl [(cI, .int), (cZ, .boolean), (cS, .object RX3), (cC, .object RX0), (cJ, .long)] U ∧ mN U)) (va_Qi (fun (r : Int32) (_u : Unit) => True) (fun (_ : Unit) (t : State) => va_P (dC, dI) vwCl (mW cI cZ cS cC cJ a v) t.heap) (mA a sz)) 0 0 (mA a sz) := by
  refine Met.ofW (cc := cX3_lockedOut) (maxL := 3) (ret := (some .int)) (by decide) rfl ?_
  intro p e s m args below meth c s₁ B hml hv
  obtain ⟨rfl, hsz, hP, hK, hN⟩ := hv
  have hx := B.exec
  have hb := B.bytes
  have hr := B.returns
  have hts := atoms_spec (ws := Cond.code yX3_lockedOut cX3_lockedOut 3 (some .int) :: WW) B.pre
  have hown : s.vm.findClass RX3 = some m.cls := findClass_of_methodNamed B.named
  have hlocks := B.notSynchronized
  subst hsz
  have hAc : ∀ c, c < 81 → mA a s.heap.size (a c) := fun c h => Or.inl ⟨c, h, rfl⟩
  have hA : ∀ q : Nat, s.heap.size ≤ q → mA a s.heap.size q := fun q h => Or.inr h
  generalize hAe : mA a s.heap.size = A at hAc hA ⊢
  have hS : va_S A s.heap s.heap [] := va_S.rf
  have hl := lv_entry ([.ref (a (10 + 3 * i))]) (n := 3) (Nat.le_of_ble_eq_true rfl)
  rw [lg_entry_eq]
  generalize (lg_sl ([.ref (a (10 + 3 * i))]) ++ List.replicate (3 - (lg_sl ([.ref (a (10 + 3 * i))])).length) Slot.unset).toArray = ls at hl ⊢
  have hl : lv_has ls 3 [(0, .ref (a (10 + 3 * i)))] := hl
  refine lv_aload_n hx hb dX3_lockedOut_0 rfl (lv_at hl 0 rfl) ?_
  refine va_get (D := (dC, dI)) (ci := 3) (v := .int (v (10 + 3 * i) 8)) (C := RX3) (T := TX3) (N := 10) hx hb hts (fun w h => List.mem_cons_of_mem _ (inWX3 w h)) hown hK hP (10 + 3 * i) (at_S hi) rfl 8 (by decide) (hts _ (List.mem_cons_of_mem _ kw_t1_99)) (fun _ h9 => h9) rfl dX3_lockedOut_1 ?_
  refine lv_topi (fun t_1 et_1 => ?_)
  refine lv_aload_n hx hb dX3_lockedOut_4 rfl (lv_at hl 0 rfl) ?_
  refine va_get (D := (dC, dI)) (ci := 3) (v := .int (v (10 + 3 * i) 2)) (C := RX3) (T := TX3) (N := 10) hx hb hts (fun w h => List.mem_cons_of_mem _ (inWX3 w h)) hown hK hP (10 + 3 * i) (at_S hi) rfl 2 (by decide) (hts _ (List.mem_cons_of_mem _ kw_t1_86)) (fun _ h9 => h9) rfl dX3_lockedOut_5 ?_
  refine lv_topi (fun t_2 et_2 => ?_)
  refine lv_icmp_ne (tgt := 15) hx hb dX3_lockedOut_8 (by decide) (fun c_3 => ?_) (fun c_3 => ?_)
  · refine lv_aload_n hx hb dX3_lockedOut_15 rfl (lv_at hl 0 rfl) ?_
    refine va_get (D := (dC, dI)) (ci := 3) (v := .int (v (10 + 3 * i) 7)) (C := RX3) (T := TX3) (N := 10) hx hb hts (fun w h => List.mem_cons_of_mem _ (inWX3 w h)) hown hK hP (10 + 3 * i) (at_S hi) rfl 7 (by decide) (hts _ (List.mem_cons_of_mem _ kw_t1_97)) (fun _ h9 => h9) rfl dX3_lockedOut_16 ?_
    refine lv_topi (fun t_4 et_4 => ?_)
    refine lv_istore_n (lv' := [(1, .int t_4), (0, .ref (a (10 + 3 * i)))]) hx hb dX3_lockedOut_19 rfl hl (by decide) rfl (fun ls hl => ?_)
    refine lv_aload_n hx hb dX3_lockedOut_20 rfl (lv_at hl 1 rfl) ?_
    refine va_get (D := (dC, dI)) (ci := 3) (v := .int (v (10 + 3 * i) 9)) (C := RX3) (T := TX3) (N := 10) hx hb hts (fun w h => List.mem_cons_of_mem _ (inWX3 w h)) hown hK hP (10 + 3 * i) (at_S hi) rfl 9 (by decide) (hts _ (List.mem_cons_of_mem _ kw_t1_101)) (fun _ h9 => h9) rfl dX3_lockedOut_21 ?_
    refine lv_topi (fun t_5 et_5 => ?_)
    refine lv_aload_n hx hb dX3_lockedOut_24 rfl (lv_at hl 1 rfl) ?_
    refine va_get (D := (dC, dI)) (ci := 3) (v := .int (v (10 + 3 * i) 2)) (C := RX3) (T := TX3) (N := 10) hx hb hts (fun w h => List.mem_cons_of_mem _ (inWX3 w h)) hown hK hP (10 + 3 * i) (at_S hi) rfl 2 (by decide) (hts _ (List.mem_cons_of_mem _ kw_t1_86)) (fun _ h9 => h9) rfl dX3_lockedOut_25 ?_
    refine lv_topi (fun t_6 et_6 => ?_)
    obtain rfl : t_2 = t_6 := et_2.trans et_6.symm
    refine lv_icmp_ne (tgt := 35) hx hb dX3_lockedOut_28 (by decide) (fun c_7 => ?_) (fun c_7 => ?_)
    · refine lv_aload_n hx hb dX3_lockedOut_35 rfl (lv_at hl 1 rfl) ?_
      refine va_get (D := (dC, dI)) (ci := 3) (v := .int (v (10 + 3 * i) 1)) (C := RX3) (T := TX3) (N := 10) hx hb hts (fun w h => List.mem_cons_of_mem _ (inWX3 w h)) hown hK hP (10 + 3 * i) (at_S hi) rfl 1 (by decide) (hts _ (List.mem_cons_of_mem _ kw_t1_83)) (fun _ h9 => h9) rfl dX3_lockedOut_36 ?_
      refine lv_topi (fun t_8 et_8 => ?_)
      refine lv_aload_n hx hb dX3_lockedOut_39 rfl (lv_at hl 1 rfl) ?_
      refine va_get (D := (dC, dI)) (ci := 3) (v := .int (v (10 + 3 * i) 7)) (C := RX3) (T := TX3) (N := 10) hx hb hts (fun w h => List.mem_cons_of_mem _ (inWX3 w h)) hown hK hP (10 + 3 * i) (at_S hi) rfl 7 (by decide) (hts _ (List.mem_cons_of_mem _ kw_t1_97)) (fun _ h9 => h9) rfl dX3_lockedOut_40 ?_
      refine lv_topi (fun t_9 et_9 => ?_)
      obtain rfl : t_4 = t_9 := et_4.trans et_9.symm
      refine lv_iconst (v := (-1)) hx hb dX3_lockedOut_43 (by decide) ?_
      refine lv_ixor hx hb dX3_lockedOut_44 ?_
      refine lv_topi (fun t_10 et_10 => ?_)
      refine lv_iand hx hb dX3_lockedOut_45 ?_
      refine lv_topi (fun t_11 et_11 => ?_)
      refine lv_istore_n (lv' := [(2, .int t_11), (1, .int t_4), (0, .ref (a (10 + 3 * i)))]) hx hb dX3_lockedOut_46 rfl hl (by decide) rfl (fun ls hl => ?_)
      refine lv_iload_n hx hb dX3_lockedOut_47 rfl (lv_at hl 1 rfl) ?_
      refine lv_iload_n hx hb dX3_lockedOut_48 rfl (lv_at hl 0 rfl) ?_
      refine lv_ior hx hb dX3_lockedOut_49 ?_
      refine lv_topi (fun t_12 et_12 => ?_)
      exact W.iret (v := t_12) hx hb hr (fun t ht hW => ⟨⟨t_12, (), rfl, trivial, kt_heap ht hP⟩, hS.F ht⟩) hS.2.2 dX3_lockedOut_50
    · refine lv_iconst (v := 0) hx hb dX3_lockedOut_31 (by decide) ?_
      refine lv_goto (tgt := 46) hx hb dX3_lockedOut_32 (by decide) ?_
      refine lv_istore_n (lv' := [(2, .int 0), (1, .int t_4), (0, .ref (a (10 + 3 * i)))]) hx hb dX3_lockedOut_46 rfl hl (by decide) rfl (fun ls hl => ?_)
      refine lv_iload_n hx hb dX3_lockedOut_47 rfl (lv_at hl 1 rfl) ?_
      refine lv_iload_n hx hb dX3_lockedOut_48 rfl (lv_at hl 0 rfl) ?_
      refine lv_ior hx hb dX3_lockedOut_49 ?_
      refine lv_topi (fun t_13 et_13 => ?_)
      exact W.iret (v := t_13) hx hb hr (fun t ht hW => ⟨⟨t_13, (), rfl, trivial, kt_heap ht hP⟩, hS.F ht⟩) hS.2.2 dX3_lockedOut_50
  · refine lv_iconst (v := 0) hx hb dX3_lockedOut_11 (by decide) ?_
    refine lv_goto (tgt := 19) hx hb dX3_lockedOut_12 (by decide) ?_
    refine lv_istore_n (lv' := [(1, .int 0), (0, .ref (a (10 + 3 * i)))]) hx hb dX3_lockedOut_19 rfl hl (by decide) rfl (fun ls hl => ?_)
    refine lv_aload_n hx hb dX3_lockedOut_20 rfl (lv_at hl 1 rfl) ?_
    refine va_get (D := (dC, dI)) (ci := 3) (v := .int (v (10 + 3 * i) 9)) (C := RX3) (T := TX3) (N := 10) hx hb hts (fun w h => List.mem_cons_of_mem _ (inWX3 w h)) hown hK hP (10 + 3 * i) (at_S hi) rfl 9 (by decide) (hts _ (List.mem_cons_of_mem _ kw_t1_101)) (fun _ h9 => h9) rfl dX3_lockedOut_21 ?_
    refine lv_topi (fun t_14 et_14 => ?_)
    refine lv_aload_n hx hb dX3_lockedOut_24 rfl (lv_at hl 1 rfl) ?_
    refine va_get (D := (dC, dI)) (ci := 3) (v := .int (v (10 + 3 * i) 2)) (C := RX3) (T := TX3) (N := 10) hx hb hts (fun w h => List.mem_cons_of_mem _ (inWX3 w h)) hown hK hP (10 + 3 * i) (at_S hi) rfl 2 (by decide) (hts _ (List.mem_cons_of_mem _ kw_t1_86)) (fun _ h9 => h9) rfl dX3_lockedOut_25 ?_
    refine lv_topi (fun t_15 et_15 => ?_)
    obtain rfl : t_2 = t_15 := et_2.trans et_15.symm
    refine lv_icmp_ne (tgt := 35) hx hb dX3_lockedOut_28 (by decide) (fun c_16 => ?_) (fun c_16 => ?_)
    · refine lv_aload_n hx hb dX3_lockedOut_35 rfl (lv_at hl 1 rfl) ?_
      refine va_get (D := (dC, dI)) (ci := 3) (v := .int (v (10 + 3 * i) 1)) (C := RX3) (T := TX3) (N := 10) hx hb hts (fun w h => List.mem_cons_of_mem _ (inWX3 w h)) hown hK hP (10 + 3 * i) (at_S hi) rfl 1 (by decide) (hts _ (List.mem_cons_of_mem _ kw_t1_83)) (fun _ h9 => h9) rfl dX3_lockedOut_36 ?_
      refine lv_topi (fun t_17 et_17 => ?_)
      refine lv_aload_n hx hb dX3_lockedOut_39 rfl (lv_at hl 1 rfl) ?_
      refine va_get (D := (dC, dI)) (ci := 3) (v := .int (v (10 + 3 * i) 7)) (C := RX3) (T := TX3) (N := 10) hx hb hts (fun w h => List.mem_cons_of_mem _ (inWX3 w h)) hown hK hP (10 + 3 * i) (at_S hi) rfl 7 (by decide) (hts _ (List.mem_cons_of_mem _ kw_t1_97)) (fun _ h9 => h9) rfl dX3_lockedOut_40 ?_
      refine lv_topi (fun t_18 et_18 => ?_)
      refine lv_iconst (v := (-1)) hx hb dX3_lockedOut_43 (by decide) ?_
      refine lv_ixor hx hb dX3_lockedOut_44 ?_
      refine lv_topi (fun t_19 et_19 => ?_)
      refine lv_iand hx hb dX3_lockedOut_45 ?_
      refine lv_topi (fun t_20 et_20 => ?_)
      refine lv_istore_n (lv' := [(2, .int t_20), (1, .int 0), (0, .ref (a (10 + 3 * i)))]) hx hb dX3_lockedOut_46 rfl hl (by decide) rfl (fun ls hl => ?_)
      refine lv_iload_n hx hb dX3_lockedOut_47 rfl (lv_at hl 1 rfl) ?_
      refine lv_iload_n hx hb dX3_lockedOut_48 rfl (lv_at hl 0 rfl) ?_
      refine lv_ior hx hb dX3_lockedOut_49 ?_
      refine lv_topi (fun t_21 et_21 => ?_)
      exact W.iret (v := t_21) hx hb hr (fun t ht hW => ⟨⟨t_21, (), rfl, trivial, kt_heap ht hP⟩, hS.F ht⟩) hS.2.2 dX3_lockedOut_50
    · refine lv_iconst (v := 0) hx hb dX3_lockedOut_31 (by decide) ?_
      refine lv_goto (tgt := 46) hx hb dX3_lockedOut_32 (by decide) ?_
      refine lv_istore_n (lv' := [(2, .int 0), (1, .int 0), (0, .ref (a (10 + 3 * i)))]) hx hb dX3_lockedOut_46 rfl hl (by decide) rfl (fun ls hl => ?_)
      refine lv_iload_n hx hb dX3_lockedOut_47 rfl (lv_at hl 1 rfl) ?_
      refine lv_iload_n hx hb dX3_lockedOut_48 rfl (lv_at hl 0 rfl) ?_
      refine lv_ior hx hb dX3_lockedOut_49 ?_
      refine lv_topi (fun t_22 et_22 => ?_)
      obtain rfl : t_22 = 0 := et_22.trans (by decide)
      exact W.iret (v := 0) hx hb hr (fun t ht hW => ⟨⟨0, (), rfl, trivial, kt_heap ht hP⟩, hS.F ht⟩) hS.2.2 dX3_lockedOut_50

set_option maxHeartbeats 4000000 in
set_option maxRecDepth 100000 in
theorem c_X3_versionOf (l : Launch) (dC : Nat → ClassId) (dI : Nat → Nat → Nat) (cI cZ cS cC cJ : ClassId) (a : Nat → Nat) (v : Nat → Nat → Int32) (sz : Nat) (i : Nat) (hi : i < 12) (p0 : Int32) (hD : mDD a) (hI : kI v v) : Met l yX3_versionOf (Cond.code yX3_versionOf cX3_versionOf 2 (some .int) :: WW) ({ frames := 1, cells := 0, slots := 0, locals := 30 }) (va_Pc [.ref (a (10 + 3 * i)), .int p0] (fun U => U.heap.size = sz ∧ va_P (dC, dI) vwCl (mW cI cZ cS cC cJ a v) U.heap ∧ va_K (dC, dI) vwCl [(cI, .int), (cZ, .boolean), (cS, .object RX3), (cC, .object RX0), (cJ, .long)] U ∧ mN U)) (va_Qi (fun (r : Int32) (_u : Unit) => True) (fun (_ : Unit) (t : State) => va_P (dC, dI) vwCl (mW cI cZ cS cC cJ a v) t.heap) (mA a sz)) 0 0 (mA a sz) := by
  refine Met.ofW (cc := cX3_versionOf) (maxL := 2) (ret := (some .int)) (by decide) rfl ?_
  intro p e s m args below meth c s₁ B hml hv
  obtain ⟨rfl, hsz, hP, hK, hN⟩ := hv
  have hx := B.exec
  have hb := B.bytes
  have hr := B.returns
  have hts := atoms_spec (ws := Cond.code yX3_versionOf cX3_versionOf 2 (some .int) :: WW) B.pre
  have hown : s.vm.findClass RX3 = some m.cls := findClass_of_methodNamed B.named
  have hlocks := B.notSynchronized
  subst hsz
  have hAc : ∀ c, c < 81 → mA a s.heap.size (a c) := fun c h => Or.inl ⟨c, h, rfl⟩
  have hA : ∀ q : Nat, s.heap.size ≤ q → mA a s.heap.size q := fun q h => Or.inr h
  generalize hAe : mA a s.heap.size = A at hAc hA ⊢
  have hS : va_S A s.heap s.heap [] := va_S.rf
  have hl := lv_entry ([.ref (a (10 + 3 * i)), .int p0]) (n := 2) (Nat.le_of_ble_eq_true rfl)
  rw [lg_entry_eq]
  generalize (lg_sl ([.ref (a (10 + 3 * i)), .int p0]) ++ List.replicate (2 - (lg_sl ([.ref (a (10 + 3 * i)), .int p0])).length) Slot.unset).toArray = ls at hl ⊢
  have hl : lv_has ls 2 [(0, .ref (a (10 + 3 * i))), (1, .int p0)] := hl
  refine lv_aload_n hx hb dX3_versionOf_0 rfl (lv_at hl 0 rfl) ?_
  refine va_get (D := (dC, dI)) (ci := 3) (v := .int (v (10 + 3 * i) 7)) (C := RX3) (T := TX3) (N := 10) hx hb hts (fun w h => List.mem_cons_of_mem _ (inWX3 w h)) hown hK hP (10 + 3 * i) (at_S hi) rfl 7 (by decide) (hts _ (List.mem_cons_of_mem _ kw_t1_97)) (fun _ h9 => h9) rfl dX3_versionOf_1 ?_
  refine lv_topi (fun t_1 et_1 => ?_)
  refine lv_iload_n hx hb dX3_versionOf_4 rfl (lv_at hl 1 rfl) ?_
  have hFc := mA_free (a := a) hS hA hAc
  refine va_calli (va_runSN (As := [.int t_1, .int p0]) (rest := []) ⟨hx, hb, hml, hown, hts⟩ (c_X5_isIn l dC dI cI cZ cS cC cJ a v s.heap.size t_1 p0 hD hI.self) ⟨va_cnB 2 hts (gI (fun w h => List.mem_cons_of_mem _ h) kw_t1_213) rfl rfl rfl hN.1 (hts _ (List.mem_cons_of_mem _ kw_t1_1)) (by decide +kernel) ⟨Nat.le_of_ble_eq_true rfl, Nat.le_of_ble_eq_true rfl⟩, (hts _ (List.mem_cons_of_mem _ kw_t1_212)), trivial⟩ ⟨fun av U g mk q => by obtain ⟨q0, q1, qP, qK, qN⟩ := q; exact ⟨q0, q1, qP, va_K.moved (u := U) (U := U.calling g mk av) (Vm.Alike.refl U.vm) qK, mN_same qN⟩, fun U hU hW => ⟨rfl, by rw [hU], by rw [hU]; exact hP, va_K.moved hW.alike hK, mN_warm hW hN⟩⟩ rfl rfl hl.1 rfl (lv_room (Nat.le_of_ble_eq_true rfl)) dX3_versionOf_5 ⟨Nat.le_of_ble_eq_true rfl, Nat.le_of_ble_eq_true rfl⟩) hS (fun q _ h => hFc q h) hFc (fun r_2 _ t H locs ht hvm hw_2 hP _ _ hS => ?_)
  have hP := kt_heap2 ht hP
  clear ht hFc
  have hP : va_P (dC, dI) vwCl (mW cI cZ cS cC cJ a v) H := hP
  refine lv_if_eq (tgt := 18) hx hb dX3_versionOf_8 (by decide) (fun c_3 => ?_) (fun c_3 => ?_)
  · refine lv_aload_n hx hb dX3_versionOf_18 rfl (lv_at hl 0 rfl) ?_
    refine va_get (D := (dC, dI)) (ci := 3) (v := .int (v (10 + 3 * i) 4)) (C := RX3) (T := TX3) (N := 10) hx hb hts (fun w h => List.mem_cons_of_mem _ (inWX3 w h)) hown hK hP (10 + 3 * i) (at_S hi) rfl 4 (by decide) (hts _ (List.mem_cons_of_mem _ kw_t1_91)) (fun _ h9 => h9) rfl dX3_versionOf_19 ?_
    refine lv_topi (fun t_4 et_4 => ?_)
    refine lv_iconst (v := 1) hx hb dX3_versionOf_22 (by decide) ?_
    refine lv_isub hx hb dX3_versionOf_23 ?_
    refine lv_topi (fun t_5 et_5 => ?_)
    exact W.iret (v := t_5) hx hb hr (fun t ht hW => ⟨⟨t_5, (), rfl, trivial, kt_heap ht hP⟩, hS.F ht⟩) hS.2.2 dX3_versionOf_24
  · refine lv_aload_n hx hb dX3_versionOf_11 rfl (lv_at hl 0 rfl) ?_
    refine va_get (D := (dC, dI)) (ci := 3) (v := .int (v (10 + 3 * i) 4)) (C := RX3) (T := TX3) (N := 10) hx hb hts (fun w h => List.mem_cons_of_mem _ (inWX3 w h)) hown hK hP (10 + 3 * i) (at_S hi) rfl 4 (by decide) (hts _ (List.mem_cons_of_mem _ kw_t1_91)) (fun _ h9 => h9) rfl dX3_versionOf_12 ?_
    refine lv_topi (fun t_6 et_6 => ?_)
    refine lv_goto (tgt := 24) hx hb dX3_versionOf_15 (by decide) ?_
    exact W.iret (v := t_6) hx hb hr (fun t ht hW => ⟨⟨t_6, (), rfl, trivial, kt_heap ht hP⟩, hS.F ht⟩) hS.2.2 dX3_versionOf_24

set_option maxHeartbeats 4000000 in
set_option maxRecDepth 100000 in
theorem c_X3_isGoodAt (l : Launch) (dC : Nat → ClassId) (dI : Nat → Nat → Nat) (cI cZ cS cC cJ : ClassId) (a : Nat → Nat) (v : Nat → Nat → Int32) (sz : Nat) (i : Nat) (hi : i < 12) (p0 p1 : Int32) (hD : mDD a) (hI : kI v v) : Met l yX3_isGoodAt (Cond.code yX3_isGoodAt cX3_isGoodAt 3 (some .boolean) :: WW) ({ frames := 1, cells := 0, slots := 0, locals := 30 }) (va_Pc [.ref (a (10 + 3 * i)), .int p0, .int p1] (fun U => U.heap.size = sz ∧ va_P (dC, dI) vwCl (mW cI cZ cS cC cJ a v) U.heap ∧ va_K (dC, dI) vwCl [(cI, .int), (cZ, .boolean), (cS, .object RX3), (cC, .object RX0), (cJ, .long)] U ∧ mN U)) (va_Qi (fun (r : Int32) (_u : Unit) => (r = 0 ∨ r = 1)) (fun (_ : Unit) (t : State) => va_P (dC, dI) vwCl (mW cI cZ cS cC cJ a v) t.heap) (mA a sz)) 0 0 (mA a sz) := by
  refine Met.ofW (cc := cX3_isGoodAt) (maxL := 3) (ret := (some .boolean)) (by decide) rfl ?_
  intro p e s m args below meth c s₁ B hml hv
  obtain ⟨rfl, hsz, hP, hK, hN⟩ := hv
  have hx := B.exec
  have hb := B.bytes
  have hr := B.returns
  have hts := atoms_spec (ws := Cond.code yX3_isGoodAt cX3_isGoodAt 3 (some .boolean) :: WW) B.pre
  have hown : s.vm.findClass RX3 = some m.cls := findClass_of_methodNamed B.named
  have hlocks := B.notSynchronized
  subst hsz
  have hAc : ∀ c, c < 81 → mA a s.heap.size (a c) := fun c h => Or.inl ⟨c, h, rfl⟩
  have hA : ∀ q : Nat, s.heap.size ≤ q → mA a s.heap.size q := fun q h => Or.inr h
  generalize hAe : mA a s.heap.size = A at hAc hA ⊢
  have hS : va_S A s.heap s.heap [] := va_S.rf
  have hl := lv_entry ([.ref (a (10 + 3 * i)), .int p0, .int p1]) (n := 3) (Nat.le_of_ble_eq_true rfl)
  rw [lg_entry_eq]
  generalize (lg_sl ([.ref (a (10 + 3 * i)), .int p0, .int p1]) ++ List.replicate (3 - (lg_sl ([.ref (a (10 + 3 * i)), .int p0, .int p1])).length) Slot.unset).toArray = ls at hl ⊢
  have hl : lv_has ls 3 [(0, .ref (a (10 + 3 * i))), (1, .int p0), (2, .int p1)] := hl
  refine lv_iload_n hx hb dX3_isGoodAt_0 rfl (lv_at hl 2 rfl) ?_
  refine lv_aload_n hx hb dX3_isGoodAt_1 rfl (lv_at hl 0 rfl) ?_
  refine va_get (D := (dC, dI)) (ci := 3) (v := .int (v (10 + 3 * i) 4)) (C := RX3) (T := TX3) (N := 10) hx hb hts (fun w h => List.mem_cons_of_mem _ (inWX3 w h)) hown hK hP (10 + 3 * i) (at_S hi) rfl 4 (by decide) (hts _ (List.mem_cons_of_mem _ kw_t1_91)) (fun _ h9 => h9) rfl dX3_isGoodAt_2 ?_
  refine lv_topi (fun t_1 et_1 => ?_)
  refine lv_icmp_ne (tgt := 17) hx hb dX3_isGoodAt_5 (by decide) (fun c_2 => ?_) (fun c_2 => ?_)
  · refine lv_iload_n hx hb dX3_isGoodAt_17 rfl (lv_at hl 2 rfl) ?_
    refine lv_aload_n hx hb dX3_isGoodAt_18 rfl (lv_at hl 0 rfl) ?_
    refine va_get (D := (dC, dI)) (ci := 3) (v := .int (v (10 + 3 * i) 4)) (C := RX3) (T := TX3) (N := 10) hx hb hts (fun w h => List.mem_cons_of_mem _ (inWX3 w h)) hown hK hP (10 + 3 * i) (at_S hi) rfl 4 (by decide) (hts _ (List.mem_cons_of_mem _ kw_t1_91)) (fun _ h9 => h9) rfl dX3_isGoodAt_19 ?_
    refine lv_topi (fun t_3 et_3 => ?_)
    obtain rfl : t_1 = t_3 := et_1.trans et_3.symm
    refine lv_iconst (v := 1) hx hb dX3_isGoodAt_22 (by decide) ?_
    refine lv_isub hx hb dX3_isGoodAt_23 ?_
    refine lv_topi (fun t_4 et_4 => ?_)
    refine lv_icmp_ne (tgt := 42) hx hb dX3_isGoodAt_24 (by decide) (fun c_5 => ?_) (fun c_5 => ?_)
    · refine lv_iconst (v := 0) hx hb dX3_isGoodAt_42 (by decide) ?_
      exact W.zret (v := 0) (ty := .boolean) hx hb hr rfl (fun t ht hW => ⟨⟨0, (), rfl, (Or.inl rfl), kt_heap ht hP⟩, hS.F ht⟩) hS.2.2 dX3_isGoodAt_43
    · refine lv_aload_n hx hb dX3_isGoodAt_27 rfl (lv_at hl 0 rfl) ?_
      refine va_get (D := (dC, dI)) (ci := 3) (v := .int (v (10 + 3 * i) 9)) (C := RX3) (T := TX3) (N := 10) hx hb hts (fun w h => List.mem_cons_of_mem _ (inWX3 w h)) hown hK hP (10 + 3 * i) (at_S hi) rfl 9 (by decide) (hts _ (List.mem_cons_of_mem _ kw_t1_101)) (fun _ h9 => h9) rfl dX3_isGoodAt_28 ?_
      refine lv_topi (fun t_6 et_6 => ?_)
      refine lv_iload_n hx hb dX3_isGoodAt_31 rfl (lv_at hl 1 rfl) ?_
      have hFc := mA_free (a := a) hS hA hAc
      refine va_calli (va_runSN (As := [.int t_6, .int p0]) (rest := []) ⟨hx, hb, hml, hown, hts⟩ (c_X5_isIn l dC dI cI cZ cS cC cJ a v s.heap.size t_6 p0 hD hI.self) ⟨va_cnB 2 hts (gI (fun w h => List.mem_cons_of_mem _ h) kw_t1_213) rfl rfl rfl hN.1 (hts _ (List.mem_cons_of_mem _ kw_t1_1)) (by decide +kernel) ⟨Nat.le_of_ble_eq_true rfl, Nat.le_of_ble_eq_true rfl⟩, (hts _ (List.mem_cons_of_mem _ kw_t1_212)), trivial⟩ ⟨fun av U g mk q => by obtain ⟨q0, q1, qP, qK, qN⟩ := q; exact ⟨q0, q1, qP, va_K.moved (u := U) (U := U.calling g mk av) (Vm.Alike.refl U.vm) qK, mN_same qN⟩, fun U hU hW => ⟨rfl, by rw [hU], by rw [hU]; exact hP, va_K.moved hW.alike hK, mN_warm hW hN⟩⟩ rfl rfl hl.1 rfl (lv_room (Nat.le_of_ble_eq_true rfl)) dX3_isGoodAt_32 ⟨Nat.le_of_ble_eq_true rfl, Nat.le_of_ble_eq_true rfl⟩) hS (fun q _ h => hFc q h) hFc (fun r_7 _ t H locs ht hvm hw_7 hP _ _ hS => ?_)
      have hP := kt_heap2 ht hP
      clear ht hFc
      have hP : va_P (dC, dI) vwCl (mW cI cZ cS cC cJ a v) H := hP
      refine lv_if_eq (tgt := 42) hx hb dX3_isGoodAt_35 (by decide) (fun c_8 => ?_) (fun c_8 => ?_)
      · refine lv_iconst (v := 0) hx hb dX3_isGoodAt_42 (by decide) ?_
        exact W.zret (v := 0) (ty := .boolean) hx hb hr rfl (fun t ht hW => ⟨⟨0, (), rfl, (Or.inl rfl), kt_heap ht hP⟩, hS.F ht⟩) hS.2.2 dX3_isGoodAt_43
      · refine lv_iconst (v := 1) hx hb dX3_isGoodAt_38 (by decide) ?_
        refine lv_goto (tgt := 43) hx hb dX3_isGoodAt_39 (by decide) ?_
        exact W.zret (v := 1) (ty := .boolean) hx hb hr rfl (fun t ht hW => ⟨⟨1, (), rfl, (Or.inr rfl), kt_heap ht hP⟩, hS.F ht⟩) hS.2.2 dX3_isGoodAt_43
  · refine lv_aload_n hx hb dX3_isGoodAt_8 rfl (lv_at hl 0 rfl) ?_
    refine va_get (D := (dC, dI)) (ci := 3) (v := .int (v (10 + 3 * i) 8)) (C := RX3) (T := TX3) (N := 10) hx hb hts (fun w h => List.mem_cons_of_mem _ (inWX3 w h)) hown hK hP (10 + 3 * i) (at_S hi) rfl 8 (by decide) (hts _ (List.mem_cons_of_mem _ kw_t1_99)) (fun _ h9 => h9) rfl dX3_isGoodAt_9 ?_
    refine lv_topi (fun t_9 et_9 => ?_)
    refine lv_iload_n hx hb dX3_isGoodAt_12 rfl (lv_at hl 1 rfl) ?_
    have hFc := mA_free (a := a) hS hA hAc
    refine va_calli (va_runSN (As := [.int t_9, .int p0]) (rest := []) ⟨hx, hb, hml, hown, hts⟩ (c_X5_isIn l dC dI cI cZ cS cC cJ a v s.heap.size t_9 p0 hD hI.self) ⟨va_cnB 2 hts (gI (fun w h => List.mem_cons_of_mem _ h) kw_t1_213) rfl rfl rfl hN.1 (hts _ (List.mem_cons_of_mem _ kw_t1_1)) (by decide +kernel) ⟨Nat.le_of_ble_eq_true rfl, Nat.le_of_ble_eq_true rfl⟩, (hts _ (List.mem_cons_of_mem _ kw_t1_212)), trivial⟩ ⟨fun av U g mk q => by obtain ⟨q0, q1, qP, qK, qN⟩ := q; exact ⟨q0, q1, qP, va_K.moved (u := U) (U := U.calling g mk av) (Vm.Alike.refl U.vm) qK, mN_same qN⟩, fun U hU hW => ⟨rfl, by rw [hU], by rw [hU]; exact hP, va_K.moved hW.alike hK, mN_warm hW hN⟩⟩ rfl rfl hl.1 rfl (lv_room (Nat.le_of_ble_eq_true rfl)) dX3_isGoodAt_13 ⟨Nat.le_of_ble_eq_true rfl, Nat.le_of_ble_eq_true rfl⟩) hS (fun q _ h => hFc q h) hFc (fun r_10 _ t H locs ht hvm hw_10 hP _ _ hS => ?_)
    have hP := kt_heap2 ht hP
    clear ht hFc
    have hP : va_P (dC, dI) vwCl (mW cI cZ cS cC cJ a v) H := hP
    rcases hw_10.1 with hz9 | hz9
    · subst hz9
      exact W.zret (v := 0) (ty := .boolean) hx hb hr rfl (fun t ht hW => ⟨⟨0, (), rfl, (Or.inl rfl), kt_heap ht hP⟩, hS.F ht⟩) hS.2.2 dX3_isGoodAt_16
    · subst hz9
      exact W.zret (v := 1) (ty := .boolean) hx hb hr rfl (fun t ht hW => ⟨⟨1, (), rfl, (Or.inr rfl), kt_heap ht hP⟩, hS.F ht⟩) hS.2.2 dX3_isGoodAt_16

set_option maxHeartbeats 4000000 in
set_option maxRecDepth 100000 in
theorem c_X3_open (l : Launch) (dC : Nat → ClassId) (dI : Nat → Nat → Nat) (cI cZ cS cC cJ : ClassId) (a : Nat → Nat) (v : Nat → Nat → Int32) (sz : Nat) (i : Nat) (hi : i < 12) (p0 p1 p2 p3 p4 : Int32) (hD : mDD a) (hI : kI v v) : Met l yX3_open (Cond.code yX3_open cX3_open 6 none :: WW) ({ frames := 0, cells := 0, slots := 0, locals := 0 }) (va_Pc [.ref (a (10 + 3 * i)), .int p0, .int p1, .int p2, .int p3, .int p4] (fun U => U.heap.size = sz ∧ va_P (dC, dI) vwCl (mW cI cZ cS cC cJ a v) U.heap ∧ va_K (dC, dI) vwCl [(cI, .int), (cZ, .boolean), (cS, .object RX3), (cC, .object RX0), (cJ, .long)] U ∧ mN U)) (va_Qv (fun (u : Nat → Nat → Int32) => kI v u ∧ (u 0 = v 0)) (fun (u : Nat → Nat → Int32) (t : State) => va_P (dC, dI) vwCl (mW cI cZ cS cC cJ a u) t.heap) (mA a sz)) 0 0 (mA a sz) := by
  refine Met.ofW (cc := cX3_open) (maxL := 6) (ret := none) (by decide) rfl ?_
  intro p e s m args below meth c s₁ B hml hv
  obtain ⟨rfl, hsz, hP, hK, hN⟩ := hv
  have hx := B.exec
  have hb := B.bytes
  have hr := B.returns
  have hts := atoms_spec (ws := Cond.code yX3_open cX3_open 6 none :: WW) B.pre
  have hown : s.vm.findClass RX3 = some m.cls := findClass_of_methodNamed B.named
  have hlocks := B.notSynchronized
  subst hsz
  have hAc : ∀ c, c < 81 → mA a s.heap.size (a c) := fun c h => Or.inl ⟨c, h, rfl⟩
  have hA : ∀ q : Nat, s.heap.size ≤ q → mA a s.heap.size q := fun q h => Or.inr h
  generalize hAe : mA a s.heap.size = A at hAc hA ⊢
  have hS : va_S A s.heap s.heap [] := va_S.rf
  have hl := lv_entry ([.ref (a (10 + 3 * i)), .int p0, .int p1, .int p2, .int p3, .int p4]) (n := 6) (Nat.le_of_ble_eq_true rfl)
  rw [lg_entry_eq]
  generalize (lg_sl ([.ref (a (10 + 3 * i)), .int p0, .int p1, .int p2, .int p3, .int p4]) ++ List.replicate (6 - (lg_sl ([.ref (a (10 + 3 * i)), .int p0, .int p1, .int p2, .int p3, .int p4])).length) Slot.unset).toArray = ls at hl ⊢
  have hl : lv_has ls 6 [(0, .ref (a (10 + 3 * i))), (1, .int p0), (2, .int p1), (3, .int p2), (4, .int p3), (5, .int p4)] := hl
  refine lv_aload_n hx hb dX3_open_0 rfl (lv_at hl 0 rfl) ?_
  refine lv_iload_n hx hb dX3_open_1 rfl (lv_at hl 1 rfl) ?_
  refine va_put (D := (dC, dI)) (ci := 3) (v := .int p0) (ty := .int) (C := RX3) (T := TX3) (N := 10) hx hb hts (fun w h => List.mem_cons_of_mem _ (inWX3 w h)) tyX3 tyX3_ok nmX3 hown hK hP (mD_of hD hAc) hS (10 + 3 * i) (at_S hi) rfl 0 (by decide) (hts _ (List.mem_cons_of_mem _ kw_t1_80)) (fun _ h9 => h9) rfl (by decide +kernel) rfl rfl (Nat.le_of_ble_eq_true rfl) dX3_open_2 (fun H locs hP _ hS => ?_)
  obtain ⟨v_1, ev_1⟩ : ∃ z, z = mU v (10 + 3 * i) (upd (v (10 + 3 * i)) 0 p0) := ⟨_, rfl⟩
  have hP : va_P (dC, dI) vwCl (mW cI cZ cS cC cJ a v_1) H := by rw [ev_1]; exact mW_put hP (by omega) (by rw [gE_S hi]; rfl)
  have hI := hI.put ev_1 (by omega)
  refine lv_aload_n hx hb dX3_open_5 rfl (lv_at hl 0 rfl) ?_
  refine lv_iload_n hx hb dX3_open_6 rfl (lv_at hl 2 rfl) ?_
  refine va_put (D := (dC, dI)) (ci := 3) (v := .int p1) (ty := .int) (C := RX3) (T := TX3) (N := 10) hx hb hts (fun w h => List.mem_cons_of_mem _ (inWX3 w h)) tyX3 tyX3_ok nmX3 hown hK hP (mD_of hD hAc) hS (10 + 3 * i) (at_S hi) rfl 1 (by decide) (hts _ (List.mem_cons_of_mem _ kw_t1_83)) (fun _ h9 => h9) rfl (by decide +kernel) rfl rfl (Nat.le_of_ble_eq_true rfl) dX3_open_7 (fun H locs hP _ hS => ?_)
  obtain ⟨v_2, ev_2⟩ : ∃ z, z = mU v_1 (10 + 3 * i) (upd (v_1 (10 + 3 * i)) 1 p1) := ⟨_, rfl⟩
  have hP : va_P (dC, dI) vwCl (mW cI cZ cS cC cJ a v_2) H := by rw [ev_2]; exact mW_put hP (by omega) (by rw [gE_S hi]; rfl)
  have hI := hI.put ev_2 (by omega)
  refine lv_aload_n hx hb dX3_open_10 rfl (lv_at hl 0 rfl) ?_
  refine lv_iload_n hx hb dX3_open_11 rfl (lv_at hl 3 rfl) ?_
  refine va_put (D := (dC, dI)) (ci := 3) (v := .int p2) (ty := .int) (C := RX3) (T := TX3) (N := 10) hx hb hts (fun w h => List.mem_cons_of_mem _ (inWX3 w h)) tyX3 tyX3_ok nmX3 hown hK hP (mD_of hD hAc) hS (10 + 3 * i) (at_S hi) rfl 2 (by decide) (hts _ (List.mem_cons_of_mem _ kw_t1_86)) (fun _ h9 => h9) rfl (by decide +kernel) rfl rfl (Nat.le_of_ble_eq_true rfl) dX3_open_12 (fun H locs hP _ hS => ?_)
  obtain ⟨v_3, ev_3⟩ : ∃ z, z = mU v_2 (10 + 3 * i) (upd (v_2 (10 + 3 * i)) 2 p2) := ⟨_, rfl⟩
  have hP : va_P (dC, dI) vwCl (mW cI cZ cS cC cJ a v_3) H := by rw [ev_3]; exact mW_put hP (by omega) (by rw [gE_S hi]; rfl)
  have hI := hI.put ev_3 (by omega)
  refine lv_aload_n hx hb dX3_open_15 rfl (lv_at hl 0 rfl) ?_
  refine lv_iload hx hb dX3_open_16 (lv_at hl 4 rfl) ?_
  refine va_put (D := (dC, dI)) (ci := 3) (v := .int p3) (ty := .int) (C := RX3) (T := TX3) (N := 10) hx hb hts (fun w h => List.mem_cons_of_mem _ (inWX3 w h)) tyX3 tyX3_ok nmX3 hown hK hP (mD_of hD hAc) hS (10 + 3 * i) (at_S hi) rfl 3 (by decide) (hts _ (List.mem_cons_of_mem _ kw_t1_89)) (fun _ h9 => h9) rfl (by decide +kernel) rfl rfl (Nat.le_of_ble_eq_true rfl) dX3_open_18 (fun H locs hP _ hS => ?_)
  obtain ⟨v_4, ev_4⟩ : ∃ z, z = mU v_3 (10 + 3 * i) (upd (v_3 (10 + 3 * i)) 3 p3) := ⟨_, rfl⟩
  have hP : va_P (dC, dI) vwCl (mW cI cZ cS cC cJ a v_4) H := by rw [ev_4]; exact mW_put hP (by omega) (by rw [gE_S hi]; rfl)
  have hI := hI.put ev_4 (by omega)
  refine lv_aload_n hx hb dX3_open_21 rfl (lv_at hl 0 rfl) ?_
  refine lv_iload hx hb dX3_open_22 (lv_at hl 5 rfl) ?_
  refine va_put (D := (dC, dI)) (ci := 3) (v := .int p4) (ty := .int) (C := RX3) (T := TX3) (N := 10) hx hb hts (fun w h => List.mem_cons_of_mem _ (inWX3 w h)) tyX3 tyX3_ok nmX3 hown hK hP (mD_of hD hAc) hS (10 + 3 * i) (at_S hi) rfl 5 (by decide) (hts _ (List.mem_cons_of_mem _ kw_t1_94)) (fun _ h9 => h9) rfl (by decide +kernel) rfl rfl (Nat.le_of_ble_eq_true rfl) dX3_open_24 (fun H locs hP _ hS => ?_)
  obtain ⟨v_5, ev_5⟩ : ∃ z, z = mU v_4 (10 + 3 * i) (upd (v_4 (10 + 3 * i)) 5 p4) := ⟨_, rfl⟩
  have hP : va_P (dC, dI) vwCl (mW cI cZ cS cC cJ a v_5) H := by rw [ev_5]; exact mW_put hP (by omega) (by rw [gE_S hi]; rfl)
  have hI := hI.put ev_5 (by omega)
  refine lv_aload_n hx hb dX3_open_27 rfl (lv_at hl 0 rfl) ?_
  refine lv_iload_n hx hb dX3_open_28 rfl (lv_at hl 2 rfl) ?_
  refine va_put (D := (dC, dI)) (ci := 3) (v := .int p1) (ty := .int) (C := RX3) (T := TX3) (N := 10) hx hb hts (fun w h => List.mem_cons_of_mem _ (inWX3 w h)) tyX3 tyX3_ok nmX3 hown hK hP (mD_of hD hAc) hS (10 + 3 * i) (at_S hi) rfl 7 (by decide) (hts _ (List.mem_cons_of_mem _ kw_t1_97)) (fun _ h9 => h9) rfl (by decide +kernel) rfl rfl (Nat.le_of_ble_eq_true rfl) dX3_open_29 (fun H locs hP _ hS => ?_)
  obtain ⟨v_6, ev_6⟩ : ∃ z, z = mU v_5 (10 + 3 * i) (upd (v_5 (10 + 3 * i)) 7 p1) := ⟨_, rfl⟩
  have hP : va_P (dC, dI) vwCl (mW cI cZ cS cC cJ a v_6) H := by rw [ev_6]; exact mW_put hP (by omega) (by rw [gE_S hi]; rfl)
  have hI := hI.put ev_6 (by omega)
  refine lv_aload_n hx hb dX3_open_32 rfl (lv_at hl 0 rfl) ?_
  refine lv_iload_n hx hb dX3_open_33 rfl (lv_at hl 3 rfl) ?_
  refine va_put (D := (dC, dI)) (ci := 3) (v := .int p2) (ty := .int) (C := RX3) (T := TX3) (N := 10) hx hb hts (fun w h => List.mem_cons_of_mem _ (inWX3 w h)) tyX3 tyX3_ok nmX3 hown hK hP (mD_of hD hAc) hS (10 + 3 * i) (at_S hi) rfl 8 (by decide) (hts _ (List.mem_cons_of_mem _ kw_t1_99)) (fun _ h9 => h9) rfl (by decide +kernel) rfl rfl (Nat.le_of_ble_eq_true rfl) dX3_open_34 (fun H locs hP _ hS => ?_)
  obtain ⟨v_7, ev_7⟩ : ∃ z, z = mU v_6 (10 + 3 * i) (upd (v_6 (10 + 3 * i)) 8 p2) := ⟨_, rfl⟩
  have hP : va_P (dC, dI) vwCl (mW cI cZ cS cC cJ a v_7) H := by rw [ev_7]; exact mW_put hP (by omega) (by rw [gE_S hi]; rfl)
  have hI := hI.put ev_7 (by omega)
  exact W.vret hx hb hr (fun t ht hW => ⟨⟨v_7, rfl, ⟨hI, (by rw [ev_7, mU_ne _ _ (by first | decide | omega), ev_6, mU_ne _ _ (by first | decide | omega), ev_5, mU_ne _ _ (by first | decide | omega), ev_4, mU_ne _ _ (by first | decide | omega), ev_3, mU_ne _ _ (by first | decide | omega), ev_2, mU_ne _ _ (by first | decide | omega), ev_1, mU_ne _ _ (by first | decide | omega)])⟩, kt_heap ht hP⟩, hS.F ht⟩) hS.2.2 dX3_open_37

set_option maxHeartbeats 4000000 in
set_option maxRecDepth 100000 in
theorem c_X3_makeVersion (l : Launch) (dC : Nat → ClassId) (dI : Nat → Nat → Nat) (cI cZ cS cC cJ : ClassId) (a : Nat → Nat) (v : Nat → Nat → Int32) (sz : Nat) (i : Nat) (hi : i < 12) (p0 : Int32) (hD : mDD a) (hI : kI v v) : Met l yX3_makeVersion (Cond.code yX3_makeVersion cX3_makeVersion 2 none :: WW) ({ frames := 0, cells := 0, slots := 0, locals := 0 }) (va_Pc [.ref (a (10 + 3 * i)), .int p0] (fun U => U.heap.size = sz ∧ va_P (dC, dI) vwCl (mW cI cZ cS cC cJ a v) U.heap ∧ va_K (dC, dI) vwCl [(cI, .int), (cZ, .boolean), (cS, .object RX3), (cC, .object RX0), (cJ, .long)] U ∧ mN U)) (va_Qv (fun (u : Nat → Nat → Int32) => kI v u) (fun (u : Nat → Nat → Int32) (t : State) => va_P (dC, dI) vwCl (mW cI cZ cS cC cJ a u) t.heap) (mA a sz)) 0 0 (mA a sz) := by
  refine Met.ofW (cc := cX3_makeVersion) (maxL := 2) (ret := none) (by decide) rfl ?_
  intro p e s m args below meth c s₁ B hml hv
  obtain ⟨rfl, hsz, hP, hK, hN⟩ := hv
  have hx := B.exec
  have hb := B.bytes
  have hr := B.returns
  have hts := atoms_spec (ws := Cond.code yX3_makeVersion cX3_makeVersion 2 none :: WW) B.pre
  have hown : s.vm.findClass RX3 = some m.cls := findClass_of_methodNamed B.named
  have hlocks := B.notSynchronized
  subst hsz
  have hAc : ∀ c, c < 81 → mA a s.heap.size (a c) := fun c h => Or.inl ⟨c, h, rfl⟩
  have hA : ∀ q : Nat, s.heap.size ≤ q → mA a s.heap.size q := fun q h => Or.inr h
  generalize hAe : mA a s.heap.size = A at hAc hA ⊢
  have hS : va_S A s.heap s.heap [] := va_S.rf
  have hl := lv_entry ([.ref (a (10 + 3 * i)), .int p0]) (n := 2) (Nat.le_of_ble_eq_true rfl)
  rw [lg_entry_eq]
  generalize (lg_sl ([.ref (a (10 + 3 * i)), .int p0]) ++ List.replicate (2 - (lg_sl ([.ref (a (10 + 3 * i)), .int p0])).length) Slot.unset).toArray = ls at hl ⊢
  have hl : lv_has ls 2 [(0, .ref (a (10 + 3 * i))), (1, .int p0)] := hl
  refine lv_aload_n hx hb dX3_makeVersion_0 rfl (lv_at hl 0 rfl) ?_
  refine lv_dup hx hb dX3_makeVersion_1 rfl ?_
  refine va_get (D := (dC, dI)) (ci := 3) (v := .int (v (10 + 3 * i) 4)) (C := RX3) (T := TX3) (N := 10) hx hb hts (fun w h => List.mem_cons_of_mem _ (inWX3 w h)) hown hK hP (10 + 3 * i) (at_S hi) rfl 4 (by decide) (hts _ (List.mem_cons_of_mem _ kw_t1_91)) (fun _ h9 => h9) rfl dX3_makeVersion_2 ?_
  refine lv_topi (fun t_1 et_1 => ?_)
  refine lv_iconst (v := 1) hx hb dX3_makeVersion_5 (by decide) ?_
  refine lv_iadd hx hb dX3_makeVersion_6 ?_
  refine lv_topi (fun t_2 et_2 => ?_)
  refine va_put (D := (dC, dI)) (ci := 3) (v := .int t_2) (ty := .int) (C := RX3) (T := TX3) (N := 10) hx hb hts (fun w h => List.mem_cons_of_mem _ (inWX3 w h)) tyX3 tyX3_ok nmX3 hown hK hP (mD_of hD hAc) hS (10 + 3 * i) (at_S hi) rfl 4 (by decide) (hts _ (List.mem_cons_of_mem _ kw_t1_91)) (fun _ h9 => h9) rfl (by decide +kernel) rfl rfl (Nat.le_of_ble_eq_true rfl) dX3_makeVersion_7 (fun H locs hP _ hS => ?_)
  obtain ⟨v_3, ev_3⟩ : ∃ z, z = mU v (10 + 3 * i) (upd (v (10 + 3 * i)) 4 t_2) := ⟨_, rfl⟩
  have hP : va_P (dC, dI) vwCl (mW cI cZ cS cC cJ a v_3) H := by rw [ev_3]; exact mW_put hP (by omega) (by rw [gE_S hi]; rfl)
  have hI := hI.put ev_3 (by omega)
  refine lv_aload_n hx hb dX3_makeVersion_10 rfl (lv_at hl 0 rfl) ?_
  refine lv_aload_n hx hb dX3_makeVersion_11 rfl (lv_at hl 0 rfl) ?_
  refine va_get (D := (dC, dI)) (ci := 3) (v := .int (v_3 (10 + 3 * i) 5)) (C := RX3) (T := TX3) (N := 10) hx hb hts (fun w h => List.mem_cons_of_mem _ (inWX3 w h)) hown hK hP (10 + 3 * i) (at_S hi) rfl 5 (by decide) (hts _ (List.mem_cons_of_mem _ kw_t1_94)) (fun _ h9 => h9) rfl dX3_makeVersion_12 ?_
  refine lv_topi (fun t_4 et_4 => ?_)
  refine va_put (D := (dC, dI)) (ci := 3) (v := .int t_4) (ty := .int) (C := RX3) (T := TX3) (N := 10) hx hb hts (fun w h => List.mem_cons_of_mem _ (inWX3 w h)) tyX3 tyX3_ok nmX3 hown hK hP (mD_of hD hAc) hS (10 + 3 * i) (at_S hi) rfl 6 (by decide) (hts _ (List.mem_cons_of_mem _ kw_t1_96)) (fun _ h9 => h9) rfl (by decide +kernel) rfl rfl (Nat.le_of_ble_eq_true rfl) dX3_makeVersion_15 (fun H locs hP _ hS => ?_)
  obtain ⟨v_5, ev_5⟩ : ∃ z, z = mU v_3 (10 + 3 * i) (upd (v_3 (10 + 3 * i)) 6 t_4) := ⟨_, rfl⟩
  have hP : va_P (dC, dI) vwCl (mW cI cZ cS cC cJ a v_5) H := by rw [ev_5]; exact mW_put hP (by omega) (by rw [gE_S hi]; rfl)
  have hI := hI.put ev_5 (by omega)
  refine lv_aload_n hx hb dX3_makeVersion_18 rfl (lv_at hl 0 rfl) ?_
  refine lv_iload_n hx hb dX3_makeVersion_19 rfl (lv_at hl 1 rfl) ?_
  refine va_put (D := (dC, dI)) (ci := 3) (v := .int p0) (ty := .int) (C := RX3) (T := TX3) (N := 10) hx hb hts (fun w h => List.mem_cons_of_mem _ (inWX3 w h)) tyX3 tyX3_ok nmX3 hown hK hP (mD_of hD hAc) hS (10 + 3 * i) (at_S hi) rfl 5 (by decide) (hts _ (List.mem_cons_of_mem _ kw_t1_94)) (fun _ h9 => h9) rfl (by decide +kernel) rfl rfl (Nat.le_of_ble_eq_true rfl) dX3_makeVersion_20 (fun H locs hP _ hS => ?_)
  obtain ⟨v_6, ev_6⟩ : ∃ z, z = mU v_5 (10 + 3 * i) (upd (v_5 (10 + 3 * i)) 5 p0) := ⟨_, rfl⟩
  have hP : va_P (dC, dI) vwCl (mW cI cZ cS cC cJ a v_6) H := by rw [ev_6]; exact mW_put hP (by omega) (by rw [gE_S hi]; rfl)
  have hI := hI.put ev_6 (by omega)
  refine lv_aload_n hx hb dX3_makeVersion_23 rfl (lv_at hl 0 rfl) ?_
  refine lv_iconst (v := 0) hx hb dX3_makeVersion_24 (by decide) ?_
  refine va_put (D := (dC, dI)) (ci := 3) (v := .int 0) (ty := .int) (C := RX3) (T := TX3) (N := 10) hx hb hts (fun w h => List.mem_cons_of_mem _ (inWX3 w h)) tyX3 tyX3_ok nmX3 hown hK hP (mD_of hD hAc) hS (10 + 3 * i) (at_S hi) rfl 7 (by decide) (hts _ (List.mem_cons_of_mem _ kw_t1_97)) (fun _ h9 => h9) rfl (by decide +kernel) rfl rfl (Nat.le_of_ble_eq_true rfl) dX3_makeVersion_25 (fun H locs hP _ hS => ?_)
  obtain ⟨v_7, ev_7⟩ : ∃ z, z = mU v_6 (10 + 3 * i) (upd (v_6 (10 + 3 * i)) 7 0) := ⟨_, rfl⟩
  have hP : va_P (dC, dI) vwCl (mW cI cZ cS cC cJ a v_7) H := by rw [ev_7]; exact mW_put hP (by omega) (by rw [gE_S hi]; rfl)
  have hI := hI.put ev_7 (by omega)
  refine lv_aload_n hx hb dX3_makeVersion_28 rfl (lv_at hl 0 rfl) ?_
  refine lv_aload_n hx hb dX3_makeVersion_29 rfl (lv_at hl 0 rfl) ?_
  refine va_get (D := (dC, dI)) (ci := 3) (v := .int (v_7 (10 + 3 * i) 8)) (C := RX3) (T := TX3) (N := 10) hx hb hts (fun w h => List.mem_cons_of_mem _ (inWX3 w h)) hown hK hP (10 + 3 * i) (at_S hi) rfl 8 (by decide) (hts _ (List.mem_cons_of_mem _ kw_t1_99)) (fun _ h9 => h9) rfl dX3_makeVersion_30 ?_
  refine lv_topi (fun t_8 et_8 => ?_)
  refine va_put (D := (dC, dI)) (ci := 3) (v := .int t_8) (ty := .int) (C := RX3) (T := TX3) (N := 10) hx hb hts (fun w h => List.mem_cons_of_mem _ (inWX3 w h)) tyX3 tyX3_ok nmX3 hown hK hP (mD_of hD hAc) hS (10 + 3 * i) (at_S hi) rfl 9 (by decide) (hts _ (List.mem_cons_of_mem _ kw_t1_101)) (fun _ h9 => h9) rfl (by decide +kernel) rfl rfl (Nat.le_of_ble_eq_true rfl) dX3_makeVersion_33 (fun H locs hP _ hS => ?_)
  obtain ⟨v_9, ev_9⟩ : ∃ z, z = mU v_7 (10 + 3 * i) (upd (v_7 (10 + 3 * i)) 9 t_8) := ⟨_, rfl⟩
  have hP : va_P (dC, dI) vwCl (mW cI cZ cS cC cJ a v_9) H := by rw [ev_9]; exact mW_put hP (by omega) (by rw [gE_S hi]; rfl)
  have hI := hI.put ev_9 (by omega)
  refine lv_aload_n hx hb dX3_makeVersion_36 rfl (lv_at hl 0 rfl) ?_
  refine lv_iconst (v := 0) hx hb dX3_makeVersion_37 (by decide) ?_
  refine va_put (D := (dC, dI)) (ci := 3) (v := .int 0) (ty := .int) (C := RX3) (T := TX3) (N := 10) hx hb hts (fun w h => List.mem_cons_of_mem _ (inWX3 w h)) tyX3 tyX3_ok nmX3 hown hK hP (mD_of hD hAc) hS (10 + 3 * i) (at_S hi) rfl 8 (by decide) (hts _ (List.mem_cons_of_mem _ kw_t1_99)) (fun _ h9 => h9) rfl (by decide +kernel) rfl rfl (Nat.le_of_ble_eq_true rfl) dX3_makeVersion_38 (fun H locs hP _ hS => ?_)
  obtain ⟨v_10, ev_10⟩ : ∃ z, z = mU v_9 (10 + 3 * i) (upd (v_9 (10 + 3 * i)) 8 0) := ⟨_, rfl⟩
  have hP : va_P (dC, dI) vwCl (mW cI cZ cS cC cJ a v_10) H := by rw [ev_10]; exact mW_put hP (by omega) (by rw [gE_S hi]; rfl)
  have hI := hI.put ev_10 (by omega)
  exact W.vret hx hb hr (fun t ht hW => ⟨⟨v_10, rfl, hI, kt_heap ht hP⟩, hS.F ht⟩) hS.2.2 dX3_makeVersion_41
