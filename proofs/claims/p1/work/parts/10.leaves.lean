set_option maxHeartbeats 4000000 in
set_option maxRecDepth 100000 in
theorem c_X5_isSecret (l : Launch) (dC : Nat → ClassId) (dI : Nat → Nat → Nat) (cI cZ cS cC : ClassId) (h0 sz : Nat) (qa : Nat → Nat) (p0 : Int32) : Met l yX5_isSecret (Cond.code yX5_isSecret cX5_isSecret 2 (some .boolean) :: WW) ({ frames := 0, cells := 0, slots := 0, locals := 0 }) (va_Pc [.ref h0, .int p0] (fun U => U.heap.size = sz ∧ va_P (dC, dI) vwCl [(h0, .inr (5, [.ref (qa 0), .ref (qa 1), .ref (qa 2), .ref (qa 3), .ref (qa 4), .int 0, .int 0, .int 10, .int 100, .int 0, .int 0]))] U.heap ∧ va_K (dC, dI) vwCl [(cI, .int), (cZ, .boolean), (cS, .object RX3), (cC, .object RX0)] U ∧ va_D (fun _ => True) [(h0, .inr (5, [.ref (qa 0), .ref (qa 1), .ref (qa 2), .ref (qa 3), .ref (qa 4), .int 0, .int 0, .int 10, .int 100, .int 0, .int 0]))])) (va_Qi (fun (r : Int32) (_ : Unit) => r = 0) (fun (_ : Unit) (_ : State) => True) (va_A [] sz)) 0 0 (va_A [] sz) := by
  refine Met.ofW (cc := cX5_isSecret) (maxL := 2) (ret := (some .boolean)) (by decide) rfl ?_
  intro p e s m args below meth c s₁ B hml hv
  obtain ⟨rfl, hsz, hP, hK, hD0⟩ := hv
  have hx := B.exec
  have hb := B.bytes
  have hr := B.returns
  have hts := atoms_spec (ws := Cond.code yX5_isSecret cX5_isSecret 2 (some .boolean) :: WW) B.pre
  have hown : s.vm.findClass RX5 = some m.cls := findClass_of_methodNamed B.named
  have hlocks := B.notSynchronized
  subst hsz
  have hD := hD0
  generalize hAe : va_A [] s.heap.size = A
  have hA : ∀ q : Nat, s.heap.size ≤ q → A q := fun q h => by rw [← hAe]; exact Or.inr h
  have hS : va_S A s.heap s.heap [] := va_S.rf
  have hP : va_P (dC, dI) vwCl [(h0, .inr (5, [.ref (qa 0), .ref (qa 1), .ref (qa 2), .ref (qa 3), .ref (qa 4), .int 0, .int 0, .int 10, .int 100, .int 0, .int 0]))] s.heap := hP
  have hl := lv_entry ([.ref h0, .int p0]) (n := 2) (Nat.le_of_ble_eq_true rfl)
  rw [lg_entry_eq]
  generalize (lg_sl ([.ref h0, .int p0]) ++ List.replicate (2 - (lg_sl ([.ref h0, .int p0])).length) Slot.unset).toArray = ls at hl ⊢
  have hl : lv_has ls 2 [(0, .ref h0), (1, .int p0)] := hl
  refine lv_iload_n hx hb dX5_isSecret_0 rfl (lv_at hl 1 rfl) ?_
  refine lv_if_lt (tgt := 16) hx hb dX5_isSecret_1 (by decide) (fun c_1 => ?_) (fun c_1 => ?_)
  · refine lv_iconst (v := 0) hx hb dX5_isSecret_16 (by decide) ?_
    exact W.zret (v := 0) (ty := .boolean) hx hb hr rfl (fun t ht hW => ⟨⟨0, (), rfl, rfl, trivial⟩, hS.F ht⟩) hS.2.2 dX5_isSecret_17
  · refine lv_iload_n hx hb dX5_isSecret_4 rfl (lv_at hl 1 rfl) ?_
    refine lv_aload_n hx hb dX5_isSecret_5 rfl (lv_at hl 0 rfl) ?_
    refine va_get (D := (dC, dI)) (ci := 5) (v := .int 0) (C := RX5) (T := TX5) (N := 11) hx hb hts (fun w h => List.mem_cons_of_mem _ (inWX5 w h)) hown hK hP 0 rfl rfl 5 (by decide) (hts _ (List.mem_cons_of_mem _ kw_0)) (fun _ h9 => h9) rfl dX5_isSecret_6 ?_
    refine lv_icmp_ge (tgt := 16) hx hb dX5_isSecret_9 (by decide) (fun c_2 => ?_) (fun c_2 => False.elim (by have z0 := c_1; have z1 := c_2; simp only [Int32.lt_iff_toInt_lt, Int32.le_iff_toInt_le, ← Int32.toInt_inj, L0, L1, L5, L16, L10, L12, L15, L20, L63, L1000, L1023, L2000, L10000, L100000, Lm1] at z0 z1; omega))
    refine lv_iconst (v := 0) hx hb dX5_isSecret_16 (by decide) ?_
    exact W.zret (v := 0) (ty := .boolean) hx hb hr rfl (fun t ht hW => ⟨⟨0, (), rfl, rfl, trivial⟩, hS.F ht⟩) hS.2.2 dX5_isSecret_17

set_option maxHeartbeats 4000000 in
set_option maxRecDepth 100000 in
theorem c_X2_isDown (l : Launch) (dC : Nat → ClassId) (dI : Nat → Nat → Nat) (cI cZ cS cC : ClassId) (h0 sz : Nat) (qa : Nat → Nat) (de : Nat) (p0 : Int32) : Met l yX2_isDown (Cond.code yX2_isDown cX2_isDown 2 (some .boolean) :: WW) ({ frames := 0, cells := 0, slots := 0, locals := 0 }) (va_Pc [.ref h0, .int p0] (fun U => U.heap.size = sz ∧ va_P (dC, dI) vwCl [(h0, .inr (2, [.ref de, .int 0]))] U.heap ∧ va_K (dC, dI) vwCl [(cI, .int), (cZ, .boolean), (cS, .object RX3), (cC, .object RX0)] U ∧ va_D (fun _ => True) [(h0, .inr (2, [.ref de, .int 0]))])) (va_Qi (fun (r : Int32) (_ : Unit) => r = 0) (fun (_ : Unit) (_ : State) => True) (va_A [] sz)) 0 0 (va_A [] sz) := by
  refine Met.ofW (cc := cX2_isDown) (maxL := 2) (ret := (some .boolean)) (by decide) rfl ?_
  intro p e s m args below meth c s₁ B hml hv
  obtain ⟨rfl, hsz, hP, hK, hD0⟩ := hv
  have hx := B.exec
  have hb := B.bytes
  have hr := B.returns
  have hts := atoms_spec (ws := Cond.code yX2_isDown cX2_isDown 2 (some .boolean) :: WW) B.pre
  have hown : s.vm.findClass RX2 = some m.cls := findClass_of_methodNamed B.named
  have hlocks := B.notSynchronized
  subst hsz
  have hD := hD0
  generalize hAe : va_A [] s.heap.size = A
  have hA : ∀ q : Nat, s.heap.size ≤ q → A q := fun q h => by rw [← hAe]; exact Or.inr h
  have hS : va_S A s.heap s.heap [] := va_S.rf
  have hP : va_P (dC, dI) vwCl [(h0, .inr (2, [.ref de, .int 0]))] s.heap := hP
  have hl := lv_entry ([.ref h0, .int p0]) (n := 2) (Nat.le_of_ble_eq_true rfl)
  rw [lg_entry_eq]
  generalize (lg_sl ([.ref h0, .int p0]) ++ List.replicate (2 - (lg_sl ([.ref h0, .int p0])).length) Slot.unset).toArray = ls at hl ⊢
  have hl : lv_has ls 2 [(0, .ref h0), (1, .int p0)] := hl
  refine lv_iload_n hx hb dX2_isDown_0 rfl (lv_at hl 1 rfl) ?_
  refine lv_if_lt (tgt := 25) hx hb dX2_isDown_1 (by decide) (fun c_1 => ?_) (fun c_1 => ?_)
  · refine lv_iconst (v := 0) hx hb dX2_isDown_25 (by decide) ?_
    exact W.zret (v := 0) (ty := .boolean) hx hb hr rfl (fun t ht hW => ⟨⟨0, (), rfl, rfl, trivial⟩, hS.F ht⟩) hS.2.2 dX2_isDown_26
  · refine lv_iload_n hx hb dX2_isDown_4 rfl (lv_at hl 1 rfl) ?_
    refine lv_bipush (v := 16) hx hb dX2_isDown_5 (by decide) ?_
    refine lv_icmp_gt (tgt := 25) hx hb dX2_isDown_7 (by decide) (fun c_2 => ?_) (fun c_2 => ?_)
    · refine lv_iconst (v := 0) hx hb dX2_isDown_25 (by decide) ?_
      exact W.zret (v := 0) (ty := .boolean) hx hb hr rfl (fun t ht hW => ⟨⟨0, (), rfl, rfl, trivial⟩, hS.F ht⟩) hS.2.2 dX2_isDown_26
    · refine lv_aload_n hx hb dX2_isDown_10 rfl (lv_at hl 0 rfl) ?_
      refine va_get (D := (dC, dI)) (ci := 2) (v := .int 0) (C := RX2) (T := TX2) (N := 2) hx hb hts (fun w h => List.mem_cons_of_mem _ (inWX2 w h)) hown hK hP 0 rfl rfl 1 (by decide) (hts _ (List.mem_cons_of_mem _ kw_1)) (fun _ h9 => h9) rfl dX2_isDown_11 ?_
      refine lv_iload_n hx hb dX2_isDown_14 rfl (lv_at hl 1 rfl) ?_
      refine lv_ishr hx hb dX2_isDown_15 ?_
      refine lv_topi (fun t_3 et_3 => ?_)
      obtain rfl : t_3 = 0 := et_3.trans (kt_shr0 _)
      refine lv_iconst (v := 1) hx hb dX2_isDown_16 (by decide) ?_
      refine lv_iand hx hb dX2_isDown_17 ?_
      refine lv_topi (fun t_4 et_4 => ?_)
      obtain rfl : t_4 = 0 := et_4.trans (by decide)
      refine lv_if_eq (tgt := 25) hx hb dX2_isDown_18 (by decide) (fun c_5 => ?_) (fun c_5 => absurd (by decide) c_5)
      refine lv_iconst (v := 0) hx hb dX2_isDown_25 (by decide) ?_
      exact W.zret (v := 0) (ty := .boolean) hx hb hr rfl (fun t ht hW => ⟨⟨0, (), rfl, rfl, trivial⟩, hS.F ht⟩) hS.2.2 dX2_isDown_26

set_option maxHeartbeats 4000000 in
set_option maxRecDepth 100000 in
theorem c_X1_isKept (l : Launch) (dC : Nat → ClassId) (dI : Nat → Nat → Nat) (cI cZ cS cC : ClassId) (h0 sz : Nat) (qa : Nat → Nat) (ro : Nat) (p0 : Int32) : Met l yX1_isKept (Cond.code yX1_isKept cX1_isKept 2 (some .boolean) :: WW) ({ frames := 0, cells := 0, slots := 0, locals := 0 }) (va_Pc [.ref h0, .int p0] (fun U => U.heap.size = sz ∧ va_P (dC, dI) vwCl [(h0, .inr (1, [.ref ro, .int 0]))] U.heap ∧ va_K (dC, dI) vwCl [(cI, .int), (cZ, .boolean), (cS, .object RX3), (cC, .object RX0)] U ∧ va_D (fun _ => True) [(h0, .inr (1, [.ref ro, .int 0]))])) (va_Qi (fun (r : Int32) (_ : Unit) => r = 0) (fun (_ : Unit) (_ : State) => True) (va_A [] sz)) 0 0 (va_A [] sz) := by
  refine Met.ofW (cc := cX1_isKept) (maxL := 2) (ret := (some .boolean)) (by decide) rfl ?_
  intro p e s m args below meth c s₁ B hml hv
  obtain ⟨rfl, hsz, hP, hK, hD0⟩ := hv
  have hx := B.exec
  have hb := B.bytes
  have hr := B.returns
  have hts := atoms_spec (ws := Cond.code yX1_isKept cX1_isKept 2 (some .boolean) :: WW) B.pre
  have hown : s.vm.findClass RX1 = some m.cls := findClass_of_methodNamed B.named
  have hlocks := B.notSynchronized
  subst hsz
  have hD := hD0
  generalize hAe : va_A [] s.heap.size = A
  have hA : ∀ q : Nat, s.heap.size ≤ q → A q := fun q h => by rw [← hAe]; exact Or.inr h
  have hS : va_S A s.heap s.heap [] := va_S.rf
  have hP : va_P (dC, dI) vwCl [(h0, .inr (1, [.ref ro, .int 0]))] s.heap := hP
  have hl := lv_entry ([.ref h0, .int p0]) (n := 2) (Nat.le_of_ble_eq_true rfl)
  rw [lg_entry_eq]
  generalize (lg_sl ([.ref h0, .int p0]) ++ List.replicate (2 - (lg_sl ([.ref h0, .int p0])).length) Slot.unset).toArray = ls at hl ⊢
  have hl : lv_has ls 2 [(0, .ref h0), (1, .int p0)] := hl
  refine lv_iload_n hx hb dX1_isKept_0 rfl (lv_at hl 1 rfl) ?_
  refine lv_if_lt (tgt := 23) hx hb dX1_isKept_1 (by decide) (fun c_1 => ?_) (fun c_1 => ?_)
  · refine lv_iconst (v := 0) hx hb dX1_isKept_23 (by decide) ?_
    exact W.zret (v := 0) (ty := .boolean) hx hb hr rfl (fun t ht hW => ⟨⟨0, (), rfl, rfl, trivial⟩, hS.F ht⟩) hS.2.2 dX1_isKept_24
  · refine lv_iload_n hx hb dX1_isKept_4 rfl (lv_at hl 1 rfl) ?_
    refine lv_aload_n hx hb dX1_isKept_5 rfl (lv_at hl 0 rfl) ?_
    refine va_get (D := (dC, dI)) (ci := 1) (v := .int 0) (C := RX1) (T := TX1) (N := 2) hx hb hts (fun w h => List.mem_cons_of_mem _ (inWX1 w h)) hown hK hP 0 rfl rfl 1 (by decide) (hts _ (List.mem_cons_of_mem _ kw_2)) (fun _ h9 => h9) rfl dX1_isKept_6 ?_
    refine lv_icmp_ge (tgt := 23) hx hb dX1_isKept_9 (by decide) (fun c_2 => ?_) (fun c_2 => False.elim (by have z0 := c_1; have z1 := c_2; simp only [Int32.lt_iff_toInt_lt, Int32.le_iff_toInt_le, ← Int32.toInt_inj, L0, L1, L5, L16, L10, L12, L15, L20, L63, L1000, L1023, L2000, L10000, L100000, Lm1] at z0 z1; omega))
    refine lv_iconst (v := 0) hx hb dX1_isKept_23 (by decide) ?_
    exact W.zret (v := 0) (ty := .boolean) hx hb hr rfl (fun t ht hW => ⟨⟨0, (), rfl, rfl, trivial⟩, hS.F ht⟩) hS.2.2 dX1_isKept_24

set_option maxHeartbeats 4000000 in
set_option maxRecDepth 100000 in
theorem c_X6_isSecret (l : Launch) (dC : Nat → ClassId) (dI : Nat → Nat → Nat) (cI cZ cS cC : ClassId) (h0 sz : Nat) (qa : Nat → Nat) (p0 : Int32) : Met l yX6_isSecret (Cond.code yX6_isSecret cX6_isSecret 2 (some .boolean) :: WW) ({ frames := 0, cells := 0, slots := 0, locals := 0 }) (va_Pc [.ref h0, .int p0] (fun U => U.heap.size = sz ∧ va_P (dC, dI) vwCl [(h0, .inr (6, [.int 0, .int 0, .int 0, .int 0, .int 0, .int 0, .int 0, .int 10, .int 100, .ref (qa 9), .ref (qa 10), .ref (qa 11), .ref (qa 12), .ref (qa 13), .ref (qa 14), .ref (qa 15), .ref (qa 16), .ref (qa 17), .ref (qa 18), .ref (qa 19), .ref (qa 20), .ref (qa 21), .ref (qa 22), .ref (qa 23), .ref (qa 24), .ref (qa 25), .ref (qa 26), .ref (qa 27), .ref (qa 28), .ref (qa 29), .ref (qa 30), .ref (qa 31), .ref (qa 32), .ref (qa 33), .ref (qa 34), .ref (qa 35), .ref (qa 36), .ref (qa 37), .ref (qa 38), .ref (qa 39), .ref (qa 40), .ref (qa 41), .ref (qa 42)]))] U.heap ∧ va_K (dC, dI) vwCl [(cI, .int), (cZ, .boolean), (cS, .object RX3), (cC, .object RX0)] U ∧ va_D (fun _ => True) [(h0, .inr (6, [.int 0, .int 0, .int 0, .int 0, .int 0, .int 0, .int 0, .int 10, .int 100, .ref (qa 9), .ref (qa 10), .ref (qa 11), .ref (qa 12), .ref (qa 13), .ref (qa 14), .ref (qa 15), .ref (qa 16), .ref (qa 17), .ref (qa 18), .ref (qa 19), .ref (qa 20), .ref (qa 21), .ref (qa 22), .ref (qa 23), .ref (qa 24), .ref (qa 25), .ref (qa 26), .ref (qa 27), .ref (qa 28), .ref (qa 29), .ref (qa 30), .ref (qa 31), .ref (qa 32), .ref (qa 33), .ref (qa 34), .ref (qa 35), .ref (qa 36), .ref (qa 37), .ref (qa 38), .ref (qa 39), .ref (qa 40), .ref (qa 41), .ref (qa 42)]))])) (va_Qi (fun (r : Int32) (_ : Unit) => r = 0) (fun (_ : Unit) (_ : State) => True) (va_A [] sz)) 0 0 (va_A [] sz) := by
  refine Met.ofW (cc := cX6_isSecret) (maxL := 2) (ret := (some .boolean)) (by decide) rfl ?_
  intro p e s m args below meth c s₁ B hml hv
  obtain ⟨rfl, hsz, hP, hK, hD0⟩ := hv
  have hx := B.exec
  have hb := B.bytes
  have hr := B.returns
  have hts := atoms_spec (ws := Cond.code yX6_isSecret cX6_isSecret 2 (some .boolean) :: WW) B.pre
  have hown : s.vm.findClass RX6 = some m.cls := findClass_of_methodNamed B.named
  have hlocks := B.notSynchronized
  subst hsz
  have hD := hD0
  generalize hAe : va_A [] s.heap.size = A
  have hA : ∀ q : Nat, s.heap.size ≤ q → A q := fun q h => by rw [← hAe]; exact Or.inr h
  have hS : va_S A s.heap s.heap [] := va_S.rf
  have hP : va_P (dC, dI) vwCl [(h0, .inr (6, [.int 0, .int 0, .int 0, .int 0, .int 0, .int 0, .int 0, .int 10, .int 100, .ref (qa 9), .ref (qa 10), .ref (qa 11), .ref (qa 12), .ref (qa 13), .ref (qa 14), .ref (qa 15), .ref (qa 16), .ref (qa 17), .ref (qa 18), .ref (qa 19), .ref (qa 20), .ref (qa 21), .ref (qa 22), .ref (qa 23), .ref (qa 24), .ref (qa 25), .ref (qa 26), .ref (qa 27), .ref (qa 28), .ref (qa 29), .ref (qa 30), .ref (qa 31), .ref (qa 32), .ref (qa 33), .ref (qa 34), .ref (qa 35), .ref (qa 36), .ref (qa 37), .ref (qa 38), .ref (qa 39), .ref (qa 40), .ref (qa 41), .ref (qa 42)]))] s.heap := hP
  have hl := lv_entry ([.ref h0, .int p0]) (n := 2) (Nat.le_of_ble_eq_true rfl)
  rw [lg_entry_eq]
  generalize (lg_sl ([.ref h0, .int p0]) ++ List.replicate (2 - (lg_sl ([.ref h0, .int p0])).length) Slot.unset).toArray = ls at hl ⊢
  have hl : lv_has ls 2 [(0, .ref h0), (1, .int p0)] := hl
  refine lv_iload_n hx hb dX6_isSecret_0 rfl (lv_at hl 1 rfl) ?_
  refine lv_if_lt (tgt := 16) hx hb dX6_isSecret_1 (by decide) (fun c_1 => ?_) (fun c_1 => ?_)
  · refine lv_iconst (v := 0) hx hb dX6_isSecret_16 (by decide) ?_
    exact W.zret (v := 0) (ty := .boolean) hx hb hr rfl (fun t ht hW => ⟨⟨0, (), rfl, rfl, trivial⟩, hS.F ht⟩) hS.2.2 dX6_isSecret_17
  · refine lv_iload_n hx hb dX6_isSecret_4 rfl (lv_at hl 1 rfl) ?_
    refine lv_aload_n hx hb dX6_isSecret_5 rfl (lv_at hl 0 rfl) ?_
    refine va_get (D := (dC, dI)) (ci := 6) (v := .int 0) (C := RX6) (T := TX6) (N := 43) hx hb hts (fun w h => List.mem_cons_of_mem _ (inWX6 w h)) hown hK hP 0 rfl rfl 2 (by decide) (hts _ (List.mem_cons_of_mem _ kw_3)) (fun _ h9 => h9) rfl dX6_isSecret_6 ?_
    refine lv_icmp_ge (tgt := 16) hx hb dX6_isSecret_9 (by decide) (fun c_2 => ?_) (fun c_2 => False.elim (by have z0 := c_1; have z1 := c_2; simp only [Int32.lt_iff_toInt_lt, Int32.le_iff_toInt_le, ← Int32.toInt_inj, L0, L1, L5, L16, L10, L12, L15, L20, L63, L1000, L1023, L2000, L10000, L100000, Lm1] at z0 z1; omega))
    refine lv_iconst (v := 0) hx hb dX6_isSecret_16 (by decide) ?_
    exact W.zret (v := 0) (ty := .boolean) hx hb hr rfl (fun t ht hW => ⟨⟨0, (), rfl, rfl, trivial⟩, hS.F ht⟩) hS.2.2 dX6_isSecret_17

set_option maxHeartbeats 4000000 in
set_option maxRecDepth 100000 in
theorem c_X6_isIn (l : Launch) (dC : Nat → ClassId) (dI : Nat → Nat → Nat) (cI cZ cS cC : ClassId) (h0 sz : Nat) (qa : Nat → Nat) (p0 p1 p2 : Int32) : Met l yX6_isIn (Cond.code yX6_isIn cX6_isIn 3 (some .boolean) :: WW) ({ frames := 0, cells := 0, slots := 0, locals := 0 }) (va_Pc [.int p0, .int p1, .int p2] (fun U => U.heap.size = sz ∧ va_P (dC, dI) vwCl [] U.heap ∧ va_K (dC, dI) vwCl [(cI, .int), (cZ, .boolean), (cS, .object RX3), (cC, .object RX0)] U ∧ va_D (fun _ => True) [])) (va_Qi (fun (r : Int32) (_ : Unit) => (r = 1 ∧ ¬ p0 < p1 ∧ ¬ p2 < p0) ∨ (r = 0 ∧ (p0 < p1 ∨ p2 < p0))) (fun (_ : Unit) (_ : State) => True) (va_A [] sz)) 0 0 (va_A [] sz) := by
  refine Met.ofW (cc := cX6_isIn) (maxL := 3) (ret := (some .boolean)) (by decide) rfl ?_
  intro p e s m args below meth c s₁ B hml hv
  obtain ⟨rfl, hsz, hP, hK, hD0⟩ := hv
  have hx := B.exec
  have hb := B.bytes
  have hr := B.returns
  have hts := atoms_spec (ws := Cond.code yX6_isIn cX6_isIn 3 (some .boolean) :: WW) B.pre
  have hown : s.vm.findClass RX6 = some m.cls := findClass_of_methodNamed B.named
  have hlocks := B.notSynchronized
  subst hsz
  have hD := hD0
  generalize hAe : va_A [] s.heap.size = A
  have hA : ∀ q : Nat, s.heap.size ≤ q → A q := fun q h => by rw [← hAe]; exact Or.inr h
  have hS : va_S A s.heap s.heap [] := va_S.rf
  have hP : va_P (dC, dI) vwCl [] s.heap := hP
  have hl := lv_entry ([.int p0, .int p1, .int p2]) (n := 3) (Nat.le_of_ble_eq_true rfl)
  rw [lg_entry_eq]
  generalize (lg_sl ([.int p0, .int p1, .int p2]) ++ List.replicate (3 - (lg_sl ([.int p0, .int p1, .int p2])).length) Slot.unset).toArray = ls at hl ⊢
  have hl : lv_has ls 3 [(0, .int p0), (1, .int p1), (2, .int p2)] := hl
  refine lv_iload_n hx hb dX6_isIn_0 rfl (lv_at hl 0 rfl) ?_
  refine lv_iload_n hx hb dX6_isIn_1 rfl (lv_at hl 1 rfl) ?_
  refine lv_icmp_lt (tgt := 14) hx hb dX6_isIn_2 (by decide) (fun c_1 => ?_) (fun c_1 => ?_)
  · refine lv_iconst (v := 0) hx hb dX6_isIn_14 (by decide) ?_
    exact W.zret (v := 0) (ty := .boolean) hx hb hr rfl (fun t ht hW => ⟨⟨0, (), rfl, (by simp [c_1]), trivial⟩, hS.F ht⟩) hS.2.2 dX6_isIn_15
  · refine lv_iload_n hx hb dX6_isIn_5 rfl (lv_at hl 0 rfl) ?_
    refine lv_iload_n hx hb dX6_isIn_6 rfl (lv_at hl 2 rfl) ?_
    refine lv_icmp_gt (tgt := 14) hx hb dX6_isIn_7 (by decide) (fun c_2 => ?_) (fun c_2 => ?_)
    · refine lv_iconst (v := 0) hx hb dX6_isIn_14 (by decide) ?_
      exact W.zret (v := 0) (ty := .boolean) hx hb hr rfl (fun t ht hW => ⟨⟨0, (), rfl, (by simp [c_1, c_2]), trivial⟩, hS.F ht⟩) hS.2.2 dX6_isIn_15
    · refine lv_iconst (v := 1) hx hb dX6_isIn_10 (by decide) ?_
      refine lv_goto (tgt := 15) hx hb dX6_isIn_11 (by decide) ?_
      exact W.zret (v := 1) (ty := .boolean) hx hb hr rfl (fun t ht hW => ⟨⟨1, (), rfl, (by simp [c_1, c_2]), trivial⟩, hS.F ht⟩) hS.2.2 dX6_isIn_15

set_option maxHeartbeats 4000000 in
set_option maxRecDepth 100000 in
theorem c_X6_thrown (l : Launch) (dC : Nat → ClassId) (dI : Nat → Nat → Nat) (cI cZ cS cC : ClassId) (h0 sz : Nat) (qa : Nat → Nat) (th : Int32) : Met l yX6_thrown (Cond.code yX6_thrown cX6_thrown 1 (some .int) :: WW) ({ frames := 0, cells := 0, slots := 0, locals := 0 }) (va_Pc [.ref h0] (fun U => U.heap.size = sz ∧ va_P (dC, dI) vwCl [(h0, .inr (6, [.int th, .int 0, .int 0, .int 0, .int 0, .int 0, .int 0, .int 10, .int 100, .ref (qa 9), .ref (qa 10), .ref (qa 11), .ref (qa 12), .ref (qa 13), .ref (qa 14), .ref (qa 15), .ref (qa 16), .ref (qa 17), .ref (qa 18), .ref (qa 19), .ref (qa 20), .ref (qa 21), .ref (qa 22), .ref (qa 23), .ref (qa 24), .ref (qa 25), .ref (qa 26), .ref (qa 27), .ref (qa 28), .ref (qa 29), .ref (qa 30), .ref (qa 31), .ref (qa 32), .ref (qa 33), .ref (qa 34), .ref (qa 35), .ref (qa 36), .ref (qa 37), .ref (qa 38), .ref (qa 39), .ref (qa 40), .ref (qa 41), .ref (qa 42)]))] U.heap ∧ va_K (dC, dI) vwCl [(cI, .int), (cZ, .boolean), (cS, .object RX3), (cC, .object RX0)] U ∧ va_D (fun _ => True) [(h0, .inr (6, [.int th, .int 0, .int 0, .int 0, .int 0, .int 0, .int 0, .int 10, .int 100, .ref (qa 9), .ref (qa 10), .ref (qa 11), .ref (qa 12), .ref (qa 13), .ref (qa 14), .ref (qa 15), .ref (qa 16), .ref (qa 17), .ref (qa 18), .ref (qa 19), .ref (qa 20), .ref (qa 21), .ref (qa 22), .ref (qa 23), .ref (qa 24), .ref (qa 25), .ref (qa 26), .ref (qa 27), .ref (qa 28), .ref (qa 29), .ref (qa 30), .ref (qa 31), .ref (qa 32), .ref (qa 33), .ref (qa 34), .ref (qa 35), .ref (qa 36), .ref (qa 37), .ref (qa 38), .ref (qa 39), .ref (qa 40), .ref (qa 41), .ref (qa 42)]))])) (va_Qi (fun (r : Int32) (_ : Unit) => r = th) (fun (_ : Unit) (_ : State) => True) (va_A [] sz)) 0 0 (va_A [] sz) := by
  refine Met.ofW (cc := cX6_thrown) (maxL := 1) (ret := (some .int)) (by decide) rfl ?_
  intro p e s m args below meth c s₁ B hml hv
  obtain ⟨rfl, hsz, hP, hK, hD0⟩ := hv
  have hx := B.exec
  have hb := B.bytes
  have hr := B.returns
  have hts := atoms_spec (ws := Cond.code yX6_thrown cX6_thrown 1 (some .int) :: WW) B.pre
  have hown : s.vm.findClass RX6 = some m.cls := findClass_of_methodNamed B.named
  have hlocks := B.notSynchronized
  subst hsz
  have hD := hD0
  generalize hAe : va_A [] s.heap.size = A
  have hA : ∀ q : Nat, s.heap.size ≤ q → A q := fun q h => by rw [← hAe]; exact Or.inr h
  have hS : va_S A s.heap s.heap [] := va_S.rf
  have hP : va_P (dC, dI) vwCl [(h0, .inr (6, [.int th, .int 0, .int 0, .int 0, .int 0, .int 0, .int 0, .int 10, .int 100, .ref (qa 9), .ref (qa 10), .ref (qa 11), .ref (qa 12), .ref (qa 13), .ref (qa 14), .ref (qa 15), .ref (qa 16), .ref (qa 17), .ref (qa 18), .ref (qa 19), .ref (qa 20), .ref (qa 21), .ref (qa 22), .ref (qa 23), .ref (qa 24), .ref (qa 25), .ref (qa 26), .ref (qa 27), .ref (qa 28), .ref (qa 29), .ref (qa 30), .ref (qa 31), .ref (qa 32), .ref (qa 33), .ref (qa 34), .ref (qa 35), .ref (qa 36), .ref (qa 37), .ref (qa 38), .ref (qa 39), .ref (qa 40), .ref (qa 41), .ref (qa 42)]))] s.heap := hP
  have hl := lv_entry ([.ref h0]) (n := 1) (Nat.le_of_ble_eq_true rfl)
  rw [lg_entry_eq]
  generalize (lg_sl ([.ref h0]) ++ List.replicate (1 - (lg_sl ([.ref h0])).length) Slot.unset).toArray = ls at hl ⊢
  have hl : lv_has ls 1 [(0, .ref h0)] := hl
  refine lv_aload_n hx hb dX6_thrown_0 rfl (lv_at hl 0 rfl) ?_
  refine va_get (D := (dC, dI)) (ci := 6) (v := .int th) (C := RX6) (T := TX6) (N := 43) hx hb hts (fun w h => List.mem_cons_of_mem _ (inWX6 w h)) hown hK hP 0 rfl rfl 0 (by decide) (hts _ (List.mem_cons_of_mem _ kw_4)) (fun _ h9 => h9) rfl dX6_thrown_1 ?_
  exact W.iret (v := th) hx hb hr (fun t ht hW => ⟨⟨th, (), rfl, rfl, trivial⟩, hS.F ht⟩) hS.2.2 dX6_thrown_4
