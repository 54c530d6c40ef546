set_option maxHeartbeats 4000000 in
set_option maxRecDepth 100000 in
theorem c_X5_secret (l : Launch) (dC : Nat → ClassId) (dI : Nat → Nat → Nat) (cI cZ cS cC cJ : ClassId) (a : Nat → Nat) (v : Nat → Nat → Int32) (sz : Nat) (p0 p1 p2 p3 : Int32) (hD : mDD a) (hI : kI v v) : Met l yX5_secret (Cond.code yX5_secret cX5_secret 6 (some .int) :: WW) ({ frames := 2, cells := 0, slots := 0, locals := 60 }) (va_Pc [.ref (a 0), .int p0, .int p1, .int p2, .int p3] (fun U => U.heap.size = sz ∧ va_P (dC, dI) vwCl (mW cI cZ cS cC cJ a v) U.heap ∧ va_K (dC, dI) vwCl [(cI, .int), (cZ, .boolean), (cS, .object RX3), (cC, .object RX0), (cJ, .long)] U ∧ mN U)) (va_Qi (fun (r : Int32) (u : Nat → Nat → Int32) => kJ v u ∧ (r = sp_sec p0 p1 p2 p3 (v 0 5) ∧ u 0 5 = sn_sec p0 p1 p2 p3 (v 0 5) ∧ u 0 6 = v 0 6 ∧ u 5 = v 5)) (fun (u : Nat → Nat → Int32) (t : State) => va_P (dC, dI) vwCl (mW cI cZ cS cC cJ a u) t.heap) (mA a sz)) 0 0 (mA a sz) := by
  refine Met.ofW (cc := cX5_secret) (maxL := 6) (ret := (some .int)) (by decide) rfl ?_
  intro p e s m args below meth c s₁ B hml hv
  obtain ⟨rfl, hsz, hP, hK, hN⟩ := hv
  have hx := B.exec
  have hb := B.bytes
  have hr := B.returns
  have hts := atoms_spec (ws := Cond.code yX5_secret cX5_secret 6 (some .int) :: WW) B.pre
  have hown : s.vm.findClass RX5 = some m.cls := findClass_of_methodNamed B.named
  have hlocks := B.notSynchronized
  subst hsz
  have hAc : ∀ c, c < 81 → mA a s.heap.size (a c) := fun c h => Or.inl ⟨c, h, rfl⟩
  have hA : ∀ q : Nat, s.heap.size ≤ q → mA a s.heap.size q := fun q h => Or.inr h
  generalize hAe : mA a s.heap.size = A at hAc hA ⊢
  have hS : va_S A s.heap s.heap [] := va_S.rf
  have hl := lv_entry ([.ref (a 0), .int p0, .int p1, .int p2, .int p3]) (n := 6) (Nat.le_of_ble_eq_true rfl)
  rw [lg_entry_eq]
  generalize (lg_sl ([.ref (a 0), .int p0, .int p1, .int p2, .int p3]) ++ List.replicate (6 - (lg_sl ([.ref (a 0), .int p0, .int p1, .int p2, .int p3])).length) Slot.unset).toArray = ls at hl ⊢
  have hl : lv_has ls 6 [(0, .ref (a 0)), (1, .int p0), (2, .int p1), (3, .int p2), (4, .int p3)] := hl
  have hI := hI.toJ
  refine lv_iload_n hx hb dX5_secret_0 rfl (lv_at hl 1 rfl) ?_
  refine lv_if_lt (tgt := 49) hx hb dX5_secret_1 (by decide) (fun c_1 => ?_) (fun c_1 => ?_)
  · refine lv_iconst (v := 0) hx hb dX5_secret_49 (by decide) ?_
    refine lv_istore (lv' := [(5, .int 0), (0, .ref (a 0)), (1, .int p0), (2, .int p1), (3, .int p2), (4, .int p3)]) hx hb dX5_secret_50 hl (by decide) rfl (fun ls hl => ?_)
    refine lv_iload hx hb dX5_secret_52 (lv_at hl 0 rfl) ?_
    refine lv_if_eq (tgt := 66) hx hb dX5_secret_54 (by decide) (fun c_2 => ?_) (fun c_2 => absurd (by decide) c_2)
    refine lv_iconst (v := (-1)) hx hb dX5_secret_66 (by decide) ?_
    exact W.iret (v := (-1)) hx hb hr (fun t ht hW => ⟨⟨(-1), v, rfl, ⟨hI, ⟨by rw [sp_sec, if_pos (by unfold sp_bad; have z0 := c_1; (try simp only [Int32.lt_iff_toInt_lt, Int32.le_iff_toInt_le, ← Int32.toInt_inj, L0, L1, L2, L3, L4, L6, L9, L500, L5, L7, L10, L12, L15, L16, L20, L63, L1000, L1023, L2000, L10000, L100000, Lm1] at z0 ⊢); omega)], by rw [sn_sec, if_pos (by unfold sp_bad; have z0 := c_1; (try simp only [Int32.lt_iff_toInt_lt, Int32.le_iff_toInt_le, ← Int32.toInt_inj, L0, L1, L2, L3, L4, L6, L9, L500, L5, L7, L10, L12, L15, L16, L20, L63, L1000, L1023, L2000, L10000, L100000, Lm1] at z0 ⊢); omega)], rfl, rfl⟩⟩, kt_heap ht hP⟩, hS.F ht⟩) hS.2.2 dX5_secret_67
  · refine lv_iload_n hx hb dX5_secret_4 rfl (lv_at hl 1 rfl) ?_
    refine lv_iconst (v := 1) hx hb dX5_secret_5 (by decide) ?_
    refine lv_icmp_gt (tgt := 49) hx hb dX5_secret_6 (by decide) (fun c_3 => ?_) (fun c_3 => ?_)
    · refine lv_iconst (v := 0) hx hb dX5_secret_49 (by decide) ?_
      refine lv_istore (lv' := [(5, .int 0), (0, .ref (a 0)), (1, .int p0), (2, .int p1), (3, .int p2), (4, .int p3)]) hx hb dX5_secret_50 hl (by decide) rfl (fun ls hl => ?_)
      refine lv_iload hx hb dX5_secret_52 (lv_at hl 0 rfl) ?_
      refine lv_if_eq (tgt := 66) hx hb dX5_secret_54 (by decide) (fun c_4 => ?_) (fun c_4 => absurd (by decide) c_4)
      refine lv_iconst (v := (-1)) hx hb dX5_secret_66 (by decide) ?_
      exact W.iret (v := (-1)) hx hb hr (fun t ht hW => ⟨⟨(-1), v, rfl, ⟨hI, ⟨by rw [sp_sec, if_pos (by unfold sp_bad; have z0 := c_1; have z1 := c_3; (try simp only [Int32.lt_iff_toInt_lt, Int32.le_iff_toInt_le, ← Int32.toInt_inj, L0, L1, L2, L3, L4, L6, L9, L500, L5, L7, L10, L12, L15, L16, L20, L63, L1000, L1023, L2000, L10000, L100000, Lm1] at z0 z1 ⊢); omega)], by rw [sn_sec, if_pos (by unfold sp_bad; have z0 := c_1; have z1 := c_3; (try simp only [Int32.lt_iff_toInt_lt, Int32.le_iff_toInt_le, ← Int32.toInt_inj, L0, L1, L2, L3, L4, L6, L9, L500, L5, L7, L10, L12, L15, L16, L20, L63, L1000, L1023, L2000, L10000, L100000, Lm1] at z0 z1 ⊢); omega)], rfl, rfl⟩⟩, kt_heap ht hP⟩, hS.F ht⟩) hS.2.2 dX5_secret_67
    · refine lv_iload_n hx hb dX5_secret_9 rfl (lv_at hl 2 rfl) ?_
      refine lv_if_lt (tgt := 49) hx hb dX5_secret_10 (by decide) (fun c_5 => ?_) (fun c_5 => ?_)
      · refine lv_iconst (v := 0) hx hb dX5_secret_49 (by decide) ?_
        refine lv_istore (lv' := [(5, .int 0), (0, .ref (a 0)), (1, .int p0), (2, .int p1), (3, .int p2), (4, .int p3)]) hx hb dX5_secret_50 hl (by decide) rfl (fun ls hl => ?_)
        refine lv_iload hx hb dX5_secret_52 (lv_at hl 0 rfl) ?_
        refine lv_if_eq (tgt := 66) hx hb dX5_secret_54 (by decide) (fun c_6 => ?_) (fun c_6 => absurd (by decide) c_6)
        refine lv_iconst (v := (-1)) hx hb dX5_secret_66 (by decide) ?_
        exact W.iret (v := (-1)) hx hb hr (fun t ht hW => ⟨⟨(-1), v, rfl, ⟨hI, ⟨by rw [sp_sec, if_pos (by unfold sp_bad; have z0 := c_1; have z1 := c_3; have z2 := c_5; (try simp only [Int32.lt_iff_toInt_lt, Int32.le_iff_toInt_le, ← Int32.toInt_inj, L0, L1, L2, L3, L4, L6, L9, L500, L5, L7, L10, L12, L15, L16, L20, L63, L1000, L1023, L2000, L10000, L100000, Lm1] at z0 z1 z2 ⊢); omega)], by rw [sn_sec, if_pos (by unfold sp_bad; have z0 := c_1; have z1 := c_3; have z2 := c_5; (try simp only [Int32.lt_iff_toInt_lt, Int32.le_iff_toInt_le, ← Int32.toInt_inj, L0, L1, L2, L3, L4, L6, L9, L500, L5, L7, L10, L12, L15, L16, L20, L63, L1000, L1023, L2000, L10000, L100000, Lm1] at z0 z1 z2 ⊢); omega)], rfl, rfl⟩⟩, kt_heap ht hP⟩, hS.F ht⟩) hS.2.2 dX5_secret_67
      · refine lv_iload_n hx hb dX5_secret_13 rfl (lv_at hl 2 rfl) ?_
        refine lv_sipush (v := 1023) hx hb dX5_secret_14 (by decide) ?_
        refine lv_icmp_gt (tgt := 49) hx hb dX5_secret_17 (by decide) (fun c_7 => ?_) (fun c_7 => ?_)
        · refine lv_iconst (v := 0) hx hb dX5_secret_49 (by decide) ?_
          refine lv_istore (lv' := [(5, .int 0), (0, .ref (a 0)), (1, .int p0), (2, .int p1), (3, .int p2), (4, .int p3)]) hx hb dX5_secret_50 hl (by decide) rfl (fun ls hl => ?_)
          refine lv_iload hx hb dX5_secret_52 (lv_at hl 0 rfl) ?_
          refine lv_if_eq (tgt := 66) hx hb dX5_secret_54 (by decide) (fun c_8 => ?_) (fun c_8 => absurd (by decide) c_8)
          refine lv_iconst (v := (-1)) hx hb dX5_secret_66 (by decide) ?_
          exact W.iret (v := (-1)) hx hb hr (fun t ht hW => ⟨⟨(-1), v, rfl, ⟨hI, ⟨by rw [sp_sec, if_pos (by unfold sp_bad; have z0 := c_1; have z1 := c_3; have z2 := c_5; have z3 := c_7; (try simp only [Int32.lt_iff_toInt_lt, Int32.le_iff_toInt_le, ← Int32.toInt_inj, L0, L1, L2, L3, L4, L6, L9, L500, L5, L7, L10, L12, L15, L16, L20, L63, L1000, L1023, L2000, L10000, L100000, Lm1] at z0 z1 z2 z3 ⊢); omega)], by rw [sn_sec, if_pos (by unfold sp_bad; have z0 := c_1; have z1 := c_3; have z2 := c_5; have z3 := c_7; (try simp only [Int32.lt_iff_toInt_lt, Int32.le_iff_toInt_le, ← Int32.toInt_inj, L0, L1, L2, L3, L4, L6, L9, L500, L5, L7, L10, L12, L15, L16, L20, L63, L1000, L1023, L2000, L10000, L100000, Lm1] at z0 z1 z2 z3 ⊢); omega)], rfl, rfl⟩⟩, kt_heap ht hP⟩, hS.F ht⟩) hS.2.2 dX5_secret_67
        · refine lv_iload_n hx hb dX5_secret_20 rfl (lv_at hl 3 rfl) ?_
          refine lv_iconst (v := 1) hx hb dX5_secret_21 (by decide) ?_
          refine lv_icmp_lt (tgt := 49) hx hb dX5_secret_22 (by decide) (fun c_9 => ?_) (fun c_9 => ?_)
          · refine lv_iconst (v := 0) hx hb dX5_secret_49 (by decide) ?_
            refine lv_istore (lv' := [(5, .int 0), (0, .ref (a 0)), (1, .int p0), (2, .int p1), (3, .int p2), (4, .int p3)]) hx hb dX5_secret_50 hl (by decide) rfl (fun ls hl => ?_)
            refine lv_iload hx hb dX5_secret_52 (lv_at hl 0 rfl) ?_
            refine lv_if_eq (tgt := 66) hx hb dX5_secret_54 (by decide) (fun c_10 => ?_) (fun c_10 => absurd (by decide) c_10)
            refine lv_iconst (v := (-1)) hx hb dX5_secret_66 (by decide) ?_
            exact W.iret (v := (-1)) hx hb hr (fun t ht hW => ⟨⟨(-1), v, rfl, ⟨hI, ⟨by rw [sp_sec, if_pos (by unfold sp_bad; have z0 := c_1; have z1 := c_3; have z2 := c_5; have z3 := c_7; have z4 := c_9; (try simp only [Int32.lt_iff_toInt_lt, Int32.le_iff_toInt_le, ← Int32.toInt_inj, L0, L1, L2, L3, L4, L6, L9, L500, L5, L7, L10, L12, L15, L16, L20, L63, L1000, L1023, L2000, L10000, L100000, Lm1] at z0 z1 z2 z3 z4 ⊢); omega)], by rw [sn_sec, if_pos (by unfold sp_bad; have z0 := c_1; have z1 := c_3; have z2 := c_5; have z3 := c_7; have z4 := c_9; (try simp only [Int32.lt_iff_toInt_lt, Int32.le_iff_toInt_le, ← Int32.toInt_inj, L0, L1, L2, L3, L4, L6, L9, L500, L5, L7, L10, L12, L15, L16, L20, L63, L1000, L1023, L2000, L10000, L100000, Lm1] at z0 z1 z2 z3 z4 ⊢); omega)], rfl, rfl⟩⟩, kt_heap ht hP⟩, hS.F ht⟩) hS.2.2 dX5_secret_67
          · refine lv_iload_n hx hb dX5_secret_25 rfl (lv_at hl 3 rfl) ?_
            refine lv_bipush (v := 63) hx hb dX5_secret_26 (by decide) ?_
            refine lv_icmp_gt (tgt := 49) hx hb dX5_secret_28 (by decide) (fun c_11 => ?_) (fun c_11 => ?_)
            · refine lv_iconst (v := 0) hx hb dX5_secret_49 (by decide) ?_
              refine lv_istore (lv' := [(5, .int 0), (0, .ref (a 0)), (1, .int p0), (2, .int p1), (3, .int p2), (4, .int p3)]) hx hb dX5_secret_50 hl (by decide) rfl (fun ls hl => ?_)
              refine lv_iload hx hb dX5_secret_52 (lv_at hl 0 rfl) ?_
              refine lv_if_eq (tgt := 66) hx hb dX5_secret_54 (by decide) (fun c_12 => ?_) (fun c_12 => absurd (by decide) c_12)
              refine lv_iconst (v := (-1)) hx hb dX5_secret_66 (by decide) ?_
              exact W.iret (v := (-1)) hx hb hr (fun t ht hW => ⟨⟨(-1), v, rfl, ⟨hI, ⟨by rw [sp_sec, if_pos (by unfold sp_bad; have z0 := c_1; have z1 := c_3; have z2 := c_5; have z3 := c_7; have z4 := c_9; have z5 := c_11; (try simp only [Int32.lt_iff_toInt_lt, Int32.le_iff_toInt_le, ← Int32.toInt_inj, L0, L1, L2, L3, L4, L6, L9, L500, L5, L7, L10, L12, L15, L16, L20, L63, L1000, L1023, L2000, L10000, L100000, Lm1] at z0 z1 z2 z3 z4 z5 ⊢); omega)], by rw [sn_sec, if_pos (by unfold sp_bad; have z0 := c_1; have z1 := c_3; have z2 := c_5; have z3 := c_7; have z4 := c_9; have z5 := c_11; (try simp only [Int32.lt_iff_toInt_lt, Int32.le_iff_toInt_le, ← Int32.toInt_inj, L0, L1, L2, L3, L4, L6, L9, L500, L5, L7, L10, L12, L15, L16, L20, L63, L1000, L1023, L2000, L10000, L100000, Lm1] at z0 z1 z2 z3 z4 z5 ⊢); omega)], rfl, rfl⟩⟩, kt_heap ht hP⟩, hS.F ht⟩) hS.2.2 dX5_secret_67
            · refine lv_iload hx hb dX5_secret_31 (lv_at hl 4 rfl) ?_
              refine lv_iconst (v := 1) hx hb dX5_secret_33 (by decide) ?_
              refine lv_icmp_lt (tgt := 49) hx hb dX5_secret_34 (by decide) (fun c_13 => ?_) (fun c_13 => ?_)
              · refine lv_iconst (v := 0) hx hb dX5_secret_49 (by decide) ?_
                refine lv_istore (lv' := [(5, .int 0), (0, .ref (a 0)), (1, .int p0), (2, .int p1), (3, .int p2), (4, .int p3)]) hx hb dX5_secret_50 hl (by decide) rfl (fun ls hl => ?_)
                refine lv_iload hx hb dX5_secret_52 (lv_at hl 0 rfl) ?_
                refine lv_if_eq (tgt := 66) hx hb dX5_secret_54 (by decide) (fun c_14 => ?_) (fun c_14 => absurd (by decide) c_14)
                refine lv_iconst (v := (-1)) hx hb dX5_secret_66 (by decide) ?_
                exact W.iret (v := (-1)) hx hb hr (fun t ht hW => ⟨⟨(-1), v, rfl, ⟨hI, ⟨by rw [sp_sec, if_pos (by unfold sp_bad; have z0 := c_1; have z1 := c_3; have z2 := c_5; have z3 := c_7; have z4 := c_9; have z5 := c_11; have z6 := c_13; (try simp only [Int32.lt_iff_toInt_lt, Int32.le_iff_toInt_le, ← Int32.toInt_inj, L0, L1, L2, L3, L4, L6, L9, L500, L5, L7, L10, L12, L15, L16, L20, L63, L1000, L1023, L2000, L10000, L100000, Lm1] at z0 z1 z2 z3 z4 z5 z6 ⊢); omega)], by rw [sn_sec, if_pos (by unfold sp_bad; have z0 := c_1; have z1 := c_3; have z2 := c_5; have z3 := c_7; have z4 := c_9; have z5 := c_11; have z6 := c_13; (try simp only [Int32.lt_iff_toInt_lt, Int32.le_iff_toInt_le, ← Int32.toInt_inj, L0, L1, L2, L3, L4, L6, L9, L500, L5, L7, L10, L12, L15, L16, L20, L63, L1000, L1023, L2000, L10000, L100000, Lm1] at z0 z1 z2 z3 z4 z5 z6 ⊢); omega)], rfl, rfl⟩⟩, kt_heap ht hP⟩, hS.F ht⟩) hS.2.2 dX5_secret_67
              · refine lv_iload hx hb dX5_secret_37 (lv_at hl 4 rfl) ?_
                refine lv_sipush (v := 10000) hx hb dX5_secret_39 (by decide) ?_
                refine lv_icmp_gt (tgt := 49) hx hb dX5_secret_42 (by decide) (fun c_15 => ?_) (fun c_15 => ?_)
                · refine lv_iconst (v := 0) hx hb dX5_secret_49 (by decide) ?_
                  refine lv_istore (lv' := [(5, .int 0), (0, .ref (a 0)), (1, .int p0), (2, .int p1), (3, .int p2), (4, .int p3)]) hx hb dX5_secret_50 hl (by decide) rfl (fun ls hl => ?_)
                  refine lv_iload hx hb dX5_secret_52 (lv_at hl 0 rfl) ?_
                  refine lv_if_eq (tgt := 66) hx hb dX5_secret_54 (by decide) (fun c_16 => ?_) (fun c_16 => absurd (by decide) c_16)
                  refine lv_iconst (v := (-1)) hx hb dX5_secret_66 (by decide) ?_
                  exact W.iret (v := (-1)) hx hb hr (fun t ht hW => ⟨⟨(-1), v, rfl, ⟨hI, ⟨by rw [sp_sec, if_pos (by unfold sp_bad; have z0 := c_1; have z1 := c_3; have z2 := c_5; have z3 := c_7; have z4 := c_9; have z5 := c_11; have z6 := c_13; have z7 := c_15; (try simp only [Int32.lt_iff_toInt_lt, Int32.le_iff_toInt_le, ← Int32.toInt_inj, L0, L1, L2, L3, L4, L6, L9, L500, L5, L7, L10, L12, L15, L16, L20, L63, L1000, L1023, L2000, L10000, L100000, Lm1] at z0 z1 z2 z3 z4 z5 z6 z7 ⊢); omega)], by rw [sn_sec, if_pos (by unfold sp_bad; have z0 := c_1; have z1 := c_3; have z2 := c_5; have z3 := c_7; have z4 := c_9; have z5 := c_11; have z6 := c_13; have z7 := c_15; (try simp only [Int32.lt_iff_toInt_lt, Int32.le_iff_toInt_le, ← Int32.toInt_inj, L0, L1, L2, L3, L4, L6, L9, L500, L5, L7, L10, L12, L15, L16, L20, L63, L1000, L1023, L2000, L10000, L100000, Lm1] at z0 z1 z2 z3 z4 z5 z6 z7 ⊢); omega)], rfl, rfl⟩⟩, kt_heap ht hP⟩, hS.F ht⟩) hS.2.2 dX5_secret_67
                · refine lv_iconst (v := 1) hx hb dX5_secret_45 (by decide) ?_
                  refine lv_goto (tgt := 50) hx hb dX5_secret_46 (by decide) ?_
                  refine lv_istore (lv' := [(5, .int 1), (0, .ref (a 0)), (1, .int p0), (2, .int p1), (3, .int p2), (4, .int p3)]) hx hb dX5_secret_50 hl (by decide) rfl (fun ls hl => ?_)
                  refine lv_iload hx hb dX5_secret_52 (lv_at hl 0 rfl) ?_
                  refine lv_if_eq (tgt := 66) hx hb dX5_secret_54 (by decide) (fun c_17 => absurd c_17 (by decide)) (fun c_17 => ?_)
                  refine lv_aload_n hx hb dX5_secret_57 rfl (lv_at hl 1 rfl) ?_
                  refine va_get (D := (dC, dI)) (ci := 5) (v := .int (v 0 5)) (C := RX5) (T := TX5) (N := 11) hx hb hts (fun w h => List.mem_cons_of_mem _ (inWX5 w h)) hown hK hP 0 at_0 rfl 5 (by decide) (hts _ (List.mem_cons_of_mem _ kw_t1_162)) (fun _ h9 => h9) rfl dX5_secret_58 ?_
                  refine lv_topi (fun t_18 et_18 => ?_)
                  have hsc_18 : 0 ≤ t_18.toInt ∧ t_18.toInt ≤ 12 := by rw [et_18]; exact hI.sc
                  refine lv_bipush (v := 12) hx hb dX5_secret_61 (by decide) ?_
                  refine lv_icmp_lt (tgt := 68) hx hb dX5_secret_63 (by decide) (fun c_19 => ?_) (fun c_19 => ?_)
                  · refine lv_aload_n hx hb dX5_secret_68 rfl (lv_at hl 1 rfl) ?_
                    refine va_get (D := (dC, dI)) (ci := 5) (v := .ref (a 1)) (C := RX5) (T := TX5) (N := 11) hx hb hts (fun w h => List.mem_cons_of_mem _ (inWX5 w h)) hown hK hP 0 at_0 rfl 0 (by decide) (hts _ (List.mem_cons_of_mem _ kw_t1_157)) (fun _ h9 => h9) rfl dX5_secret_69 ?_
                    refine lv_aload_n hx hb dX5_secret_72 rfl (lv_at hl 1 rfl) ?_
                    refine va_get (D := (dC, dI)) (ci := 5) (v := .int (v 0 5)) (C := RX5) (T := TX5) (N := 11) hx hb hts (fun w h => List.mem_cons_of_mem _ (inWX5 w h)) hown hK hP 0 at_0 rfl 5 (by decide) (hts _ (List.mem_cons_of_mem _ kw_t1_162)) (fun _ h9 => h9) rfl dX5_secret_73 ?_
                    refine lv_topi (fun t_20 et_20 => ?_)
                    obtain rfl : t_18 = t_20 := et_18.trans et_20.symm
                    obtain ⟨ix_21, hx_21, ex_21⟩ := kt_idx (x := t_18) (n := 12) (by have z0 := c_1; have z1 := c_3; have z2 := c_5; have z3 := c_7; have z4 := c_9; have z5 := c_11; have z6 := c_13; have z7 := c_15; have z8 := c_19; have z9 := hsc_18; (try simp only [Int32.lt_iff_toInt_lt, Int32.le_iff_toInt_le, ← Int32.toInt_inj, L0, L1, L2, L3, L4, L6, L9, L500, L5, L7, L10, L12, L15, L16, L20, L63, L1000, L1023, L2000, L10000, L100000, Lm1] at z0 z1 z2 z3 z4 z5 z6 z7 z8 z9); omega) (by have z0 := c_1; have z1 := c_3; have z2 := c_5; have z3 := c_7; have z4 := c_9; have z5 := c_11; have z6 := c_13; have z7 := c_15; have z8 := c_19; have z9 := hsc_18; (try simp only [Int32.lt_iff_toInt_lt, Int32.le_iff_toInt_le, ← Int32.toInt_inj, L0, L1, L2, L3, L4, L6, L9, L500, L5, L7, L10, L12, L15, L16, L20, L63, L1000, L1023, L2000, L10000, L100000, Lm1] at z0 z1 z2 z3 z4 z5 z6 z7 z8 z9); omega)
                    refine m_aldS hx hb hK hP ex_21 hx_21 dX5_secret_76 ?_
                    refine lv_iload_n hx hb dX5_secret_77 rfl (lv_at hl 2 rfl) ?_
                    refine lv_iload_n hx hb dX5_secret_78 rfl (lv_at hl 3 rfl) ?_
                    refine lv_iload_n hx hb dX5_secret_79 rfl (lv_at hl 4 rfl) ?_
                    refine lv_iload hx hb dX5_secret_80 (lv_at hl 5 rfl) ?_
                    refine lv_aload_n hx hb dX5_secret_82 rfl (lv_at hl 1 rfl) ?_
                    refine va_get (D := (dC, dI)) (ci := 5) (v := .int (v 0 6)) (C := RX5) (T := TX5) (N := 11) hx hb hts (fun w h => List.mem_cons_of_mem _ (inWX5 w h)) hown hK hP 0 at_0 rfl 6 (by decide) (hts _ (List.mem_cons_of_mem _ kw_t1_163)) (fun _ h9 => h9) rfl dX5_secret_83 ?_
                    refine lv_topi (fun t_22 et_22 => ?_)
                    have hFc := mA_free (a := a) hS hA hAc
                    refine va_callv (va_runV (As := [.int p0, .int p1, .int p2, .int p3, .int t_22]) (rest := []) ⟨hx, hb, hml, hown, hts⟩ (c_X3_open l dC dI cI cZ cS cC cJ a v s.heap.size ix_21 hx_21 p0 p1 p2 p3 t_22 hD hI.self) (cwV 5 hts (gV (fun w h => List.mem_cons_of_mem _ h) kw_t1_195 kw_t1_196 kw_t1_197 kw_t1_6 kw_t1_198) rfl rfl rfl (by decide +kernel) ⟨Nat.le_of_ble_eq_true rfl, Nat.le_of_ble_eq_true rfl⟩) ⟨fun av U g mk q => by obtain ⟨q0, q1, qP, qK, qN⟩ := q; exact ⟨q0, q1, qP, va_K.moved (u := U) (U := U.calling g mk av) (Vm.Alike.refl U.vm) qK, mN_same qN⟩, va_recv hK hP (ci := 3) (q0 := (10 + 3 * ix_21)) rfl (at_S hx_21), fun U hU hW => ⟨rfl, by rw [hU], by rw [hU]; exact hP, va_K.moved hW.alike hK, mN_warm hW hN⟩⟩ rfl rfl hl.1 rfl (lv_room (Nat.le_of_ble_eq_true rfl)) dX5_secret_86 ⟨Nat.le_of_ble_eq_true rfl, Nat.le_of_ble_eq_true rfl⟩) hS (fun q _ h => hFc q h) hFc (fun v_23 t H locs ht hvm hw_23 hP _ _ hS => ?_)
                    have hP := kt_heap2 ht hP
                    clear ht hFc
                    have hP : va_P (dC, dI) vwCl (mW cI cZ cS cC cJ a v_23) H := hP
                    have hI := hI.trans hw_23.1
                    refine lv_aload_n hx hb dX5_secret_89 rfl (lv_at hl 1 rfl) ?_
                    refine lv_dup hx hb dX5_secret_90 rfl ?_
                    refine va_get (D := (dC, dI)) (ci := 5) (v := .int (v_23 0 5)) (C := RX5) (T := TX5) (N := 11) hx hb hts (fun w h => List.mem_cons_of_mem _ (inWX5 w h)) hown hK hP 0 at_0 rfl 5 (by decide) (hts _ (List.mem_cons_of_mem _ kw_t1_162)) (fun _ h9 => h9) rfl dX5_secret_91 ?_
                    refine lv_topi (fun t_24 et_24 => ?_)
                    have hsc_24 : 0 ≤ t_24.toInt ∧ t_24.toInt ≤ 12 := by rw [et_24]; exact hI.sc
                    refine lv_iconst (v := 1) hx hb dX5_secret_94 (by decide) ?_
                    refine lv_iadd hx hb dX5_secret_95 ?_
                    refine lv_topi (fun t_25 et_25 => ?_)
                    refine va_put (D := (dC, dI)) (ci := 5) (v := .int t_25) (ty := .int) (C := RX5) (T := TX5) (N := 11) hx hb hts (fun w h => List.mem_cons_of_mem _ (inWX5 w h)) tyX5 tyX5_ok nmX5 hown hK hP (mD_of hD hAc) hS 0 at_0 rfl 5 (by decide) (hts _ (List.mem_cons_of_mem _ kw_t1_162)) (fun _ h9 => h9) rfl (by decide +kernel) rfl rfl (Nat.le_of_ble_eq_true rfl) dX5_secret_96 (fun H locs hP _ hS => ?_)
                    obtain ⟨v_26, ev_26⟩ : ∃ z, z = mU v_23 0 (upd (v_23 0) 5 t_25) := ⟨_, rfl⟩
                    have hP : va_P (dC, dI) vwCl (mW cI cZ cS cC cJ a v_26) H := by rw [ev_26]; exact mW_put hP (by omega) rfl
                    have hI := hI.putK ev_26 (Or.inr (kt_inc hsc_18 c_19 (by rw [et_25, et_24, hw_23.2, ← et_18])))
                    refine lv_aload_n hx hb dX5_secret_99 rfl (lv_at hl 1 rfl) ?_
                    refine va_get (D := (dC, dI)) (ci := 5) (v := .int (v_26 0 5)) (C := RX5) (T := TX5) (N := 11) hx hb hts (fun w h => List.mem_cons_of_mem _ (inWX5 w h)) hown hK hP 0 at_0 rfl 5 (by decide) (hts _ (List.mem_cons_of_mem _ kw_t1_162)) (fun _ h9 => h9) rfl dX5_secret_100 ?_
                    refine lv_topi (fun t_27 et_27 => ?_)
                    have hsc_27 : 0 ≤ t_27.toInt ∧ t_27.toInt ≤ 12 := by rw [et_27]; exact hI.sc
                    refine lv_iconst (v := 1) hx hb dX5_secret_103 (by decide) ?_
                    refine lv_isub hx hb dX5_secret_104 ?_
                    refine lv_topi (fun t_28 et_28 => ?_)
                    have h05 : v_26 0 5 = v 0 5 + 1 := by rw [ev_26, mU_self]; simp only [upd, if_true]; rw [et_25, et_24, hw_23.2]
                    exact W.iret (v := t_28) hx hb hr (fun t ht hW => ⟨⟨t_28, v_26, rfl, ⟨hI, ⟨by rw [sp_sec, if_neg (by unfold sp_bad; rw [← et_18]; have z0 := c_1; have z1 := c_3; have z2 := c_5; have z3 := c_7; have z4 := c_9; have z5 := c_11; have z6 := c_13; have z7 := c_15; have z8 := c_19; have z9 := hsc_18; have z10 := hsc_24; have z11 := hsc_27; (try simp only [Int32.lt_iff_toInt_lt, Int32.le_iff_toInt_le, ← Int32.toInt_inj, L0, L1, L2, L3, L4, L6, L9, L500, L5, L7, L10, L12, L15, L16, L20, L63, L1000, L1023, L2000, L10000, L100000, Lm1] at z0 z1 z2 z3 z4 z5 z6 z7 z8 z9 z10 z11 ⊢); omega), et_28, et_27, h05, Int32.add_sub_cancel], by rw [sn_sec, if_neg (by unfold sp_bad; rw [← et_18]; have z0 := c_1; have z1 := c_3; have z2 := c_5; have z3 := c_7; have z4 := c_9; have z5 := c_11; have z6 := c_13; have z7 := c_15; have z8 := c_19; have z9 := hsc_18; have z10 := hsc_24; have z11 := hsc_27; (try simp only [Int32.lt_iff_toInt_lt, Int32.le_iff_toInt_le, ← Int32.toInt_inj, L0, L1, L2, L3, L4, L6, L9, L500, L5, L7, L10, L12, L15, L16, L20, L63, L1000, L1023, L2000, L10000, L100000, Lm1] at z0 z1 z2 z3 z4 z5 z6 z7 z8 z9 z10 z11 ⊢); omega), h05], by rw [ev_26, mU_self]; show v_23 0 6 = v 0 6; rw [hw_23.2], by rw [ev_26, mU_ne _ _ (by decide)]; exact hw_23.1.2.2.2⟩⟩, kt_heap ht hP⟩, hS.F ht⟩) hS.2.2 dX5_secret_105
                  · refine lv_iconst (v := (-1)) hx hb dX5_secret_66 (by decide) ?_
                    exact W.iret (v := (-1)) hx hb hr (fun t ht hW => ⟨⟨(-1), v, rfl, ⟨hI, ⟨by rw [sp_sec, if_pos (by unfold sp_bad; rw [← et_18]; have z0 := c_1; have z1 := c_3; have z2 := c_5; have z3 := c_7; have z4 := c_9; have z5 := c_11; have z6 := c_13; have z7 := c_15; have z8 := c_19; have z9 := hsc_18; (try simp only [Int32.lt_iff_toInt_lt, Int32.le_iff_toInt_le, ← Int32.toInt_inj, L0, L1, L2, L3, L4, L6, L9, L500, L5, L7, L10, L12, L15, L16, L20, L63, L1000, L1023, L2000, L10000, L100000, Lm1] at z0 z1 z2 z3 z4 z5 z6 z7 z8 z9 ⊢); omega)], by rw [sn_sec, if_pos (by unfold sp_bad; rw [← et_18]; have z0 := c_1; have z1 := c_3; have z2 := c_5; have z3 := c_7; have z4 := c_9; have z5 := c_11; have z6 := c_13; have z7 := c_15; have z8 := c_19; have z9 := hsc_18; (try simp only [Int32.lt_iff_toInt_lt, Int32.le_iff_toInt_le, ← Int32.toInt_inj, L0, L1, L2, L3, L4, L6, L9, L500, L5, L7, L10, L12, L15, L16, L20, L63, L1000, L1023, L2000, L10000, L100000, Lm1] at z0 z1 z2 z3 z4 z5 z6 z7 z8 z9 ⊢); omega)], rfl, rfl⟩⟩, kt_heap ht hP⟩, hS.F ht⟩) hS.2.2 dX5_secret_67

set_option maxHeartbeats 4000000 in
set_option maxRecDepth 100000 in
theorem c_X5_needs (l : Launch) (dC : Nat → ClassId) (dI : Nat → Nat → Nat) (cI cZ cS cC cJ : ClassId) (a : Nat → Nat) (v : Nat → Nat → Int32) (sz : Nat) (p0 p1 p2 : Int32) (hD : mDD a) (hI : kI v v) (hb2 : p2 = 0 ∨ p2 = 1) : Met l yX5_needs (Cond.code yX5_needs cX5_needs 4 (some .boolean) :: WW) ({ frames := 3, cells := 0, slots := 0, locals := 90 }) (va_Pc [.ref (a 0), .int p0, .int p1, .int p2] (fun U => U.heap.size = sz ∧ va_P (dC, dI) vwCl (mW cI cZ cS cC cJ a v) U.heap ∧ va_K (dC, dI) vwCl [(cI, .int), (cZ, .boolean), (cS, .object RX3), (cC, .object RX0), (cJ, .long)] U ∧ mN U)) (va_Qi (fun (r : Int32) (u : Nat → Nat → Int32) => kH v u ∧ (u 0 = v 0 ∧ u 5 = v 5 ∧ ((r = 0 ∧ u 4 = v 4 ∧ ¬ okK (v 0 5) (fun x z => dnb (v 4 x) z) p0 p1 p2) ∨ (r = 1 ∧ okK (v 0 5) (fun x z => dnb (v 4 x) z) p0 p1 p2 ∧ ∀ x y, x < 12 → y < 12 → (dnb (u 4 x) y ↔ if x = ck p0 ∧ y = ck p1 then p2 = 1 else dnb (v 4 x) y))))) (fun (u : Nat → Nat → Int32) (t : State) => va_P (dC, dI) vwCl (mW cI cZ cS cC cJ a u) t.heap) (mA a sz)) 0 0 (mA a sz) := by
  refine Met.ofW (cc := cX5_needs) (maxL := 4) (ret := (some .boolean)) (by decide) rfl ?_
  intro p e s m args below meth c s₁ B hml hv
  obtain ⟨rfl, hsz, hP, hK, hN⟩ := hv
  have hx := B.exec
  have hb := B.bytes
  have hr := B.returns
  have hts := atoms_spec (ws := Cond.code yX5_needs cX5_needs 4 (some .boolean) :: WW) B.pre
  have hown : s.vm.findClass RX5 = some m.cls := findClass_of_methodNamed B.named
  have hlocks := B.notSynchronized
  subst hsz
  have hAc : ∀ c, c < 81 → mA a s.heap.size (a c) := fun c h => Or.inl ⟨c, h, rfl⟩
  have hA : ∀ q : Nat, s.heap.size ≤ q → mA a s.heap.size q := fun q h => Or.inr h
  generalize hAe : mA a s.heap.size = A at hAc hA ⊢
  have hS : va_S A s.heap s.heap [] := va_S.rf
  have hl := lv_entry ([.ref (a 0), .int p0, .int p1, .int p2]) (n := 4) (Nat.le_of_ble_eq_true rfl)
  rw [lg_entry_eq]
  generalize (lg_sl ([.ref (a 0), .int p0, .int p1, .int p2]) ++ List.replicate (4 - (lg_sl ([.ref (a 0), .int p0, .int p1, .int p2])).length) Slot.unset).toArray = ls at hl ⊢
  have hl : lv_has ls 4 [(0, .ref (a 0)), (1, .int p0), (2, .int p1), (3, .int p2)] := hl
  have hI := hI.toH
  refine lv_aload_n hx hb dX5_needs_0 rfl (lv_at hl 0 rfl) ?_
  refine lv_iload_n hx hb dX5_needs_1 rfl (lv_at hl 1 rfl) ?_
  have hFc := mA_free (a := a) hS hA hAc
  refine va_calli (va_runV (As := [.int p0]) (rest := []) ⟨hx, hb, hml, hown, hts⟩ (c_X5_isSecret l dC dI cI cZ cS cC cJ a v s.heap.size p0 hD hI.self) (cwV 1 hts (gV (fun w h => List.mem_cons_of_mem _ h) kw_t1_203 kw_t1_205 kw_s0_0 kw_t1_1 kw_t1_206) rfl rfl rfl (by decide +kernel) ⟨Nat.le_of_ble_eq_true rfl, Nat.le_of_ble_eq_true rfl⟩) ⟨fun av U g mk q => by obtain ⟨q0, q1, qP, qK, qN⟩ := q; exact ⟨q0, q1, qP, va_K.moved (u := U) (U := U.calling g mk av) (Vm.Alike.refl U.vm) qK, mN_same qN⟩, va_recv hK hP (ci := 5) (q0 := 0) rfl at_0, fun U hU hW => ⟨rfl, by rw [hU], by rw [hU]; exact hP, va_K.moved hW.alike hK, mN_warm hW hN⟩⟩ rfl rfl hl.1 rfl (lv_room (Nat.le_of_ble_eq_true rfl)) dX5_needs_2 ⟨Nat.le_of_ble_eq_true rfl, Nat.le_of_ble_eq_true rfl⟩) hS (fun q _ h => hFc q h) hFc (fun r_1 _ t H locs ht hvm hw_1 hP _ _ hS => ?_)
  have hP := kt_heap2 ht hP
  clear ht hFc
  have hP : va_P (dC, dI) vwCl (mW cI cZ cS cC cJ a v) H := hP
  rcases hw_1 with ⟨hz_2, hns_2⟩ | ⟨hz_2, his_2, ix_2, hx_2, ex_2⟩
  · subst hz_2
    refine lv_if_eq (tgt := 29) hx hb dX5_needs_5 (by decide) (fun c_3 => ?_) (fun c_3 => absurd (by decide) c_3)
    refine lv_iconst (v := 0) hx hb dX5_needs_29 (by decide) ?_
    exact W.zret (v := 0) (ty := .boolean) hx hb hr rfl (fun t ht hW => ⟨⟨0, v, rfl, ⟨hI, ⟨rfl, rfl, Or.inl ⟨rfl, rfl, fun z => absurd z.1 hns_2⟩⟩⟩, kt_heap ht hP⟩, hS.F ht⟩) hS.2.2 dX5_needs_30
  · subst hz_2
    refine lv_if_eq (tgt := 29) hx hb dX5_needs_5 (by decide) (fun c_4 => absurd c_4 (by decide)) (fun c_4 => ?_)
    refine lv_aload_n hx hb dX5_needs_8 rfl (lv_at hl 0 rfl) ?_
    refine lv_iload_n hx hb dX5_needs_9 rfl (lv_at hl 2 rfl) ?_
    have hFc := mA_free (a := a) hS hA hAc
    refine va_calli (va_runV (As := [.int p1]) (rest := []) ⟨hx, hb, hml, hown, hts⟩ (c_X5_isSecret l dC dI cI cZ cS cC cJ a v H.size p1 hD hI.self) (cwV 1 hts (gV (fun w h => List.mem_cons_of_mem _ h) kw_t1_203 kw_t1_205 kw_s0_0 kw_t1_1 kw_t1_206) rfl rfl rfl (by decide +kernel) ⟨Nat.le_of_ble_eq_true rfl, Nat.le_of_ble_eq_true rfl⟩) ⟨fun av U g mk q => by obtain ⟨q0, q1, qP, qK, qN⟩ := q; exact ⟨q0, q1, qP, va_K.moved (u := U) (U := U.calling g mk av) (Vm.Alike.refl U.vm) qK, mN_same qN⟩, va_recv hK hP (ci := 5) (q0 := 0) rfl at_0, fun U hU hW => ⟨rfl, by rw [hU], by rw [hU]; exact hP, va_K.moved hW.alike hK, mN_warm hW hN⟩⟩ rfl rfl hl.1 rfl (lv_room (Nat.le_of_ble_eq_true rfl)) dX5_needs_10 ⟨Nat.le_of_ble_eq_true rfl, Nat.le_of_ble_eq_true rfl⟩) hS (fun q _ h => hFc q h) hFc (fun r_5 _ t H locs ht hvm hw_5 hP _ _ hS => ?_)
    have hP := kt_heap2 ht hP
    clear ht hFc
    have hP : va_P (dC, dI) vwCl (mW cI cZ cS cC cJ a v) H := hP
    rcases hw_5 with ⟨hz_6, hns_6⟩ | ⟨hz_6, his_6, ix_6, hx_6, ex_6⟩
    · subst hz_6
      refine lv_if_eq (tgt := 29) hx hb dX5_needs_13 (by decide) (fun c_7 => ?_) (fun c_7 => absurd (by decide) c_7)
      refine lv_iconst (v := 0) hx hb dX5_needs_29 (by decide) ?_
      exact W.zret (v := 0) (ty := .boolean) hx hb hr rfl (fun t ht hW => ⟨⟨0, v, rfl, ⟨hI, ⟨rfl, rfl, Or.inl ⟨rfl, rfl, fun z => absurd z.2.1 hns_6⟩⟩⟩, kt_heap ht hP⟩, hS.F ht⟩) hS.2.2 dX5_needs_30
    · subst hz_6
      refine lv_if_eq (tgt := 29) hx hb dX5_needs_13 (by decide) (fun c_8 => absurd c_8 (by decide)) (fun c_8 => ?_)
      refine lv_aload_n hx hb dX5_needs_16 rfl (lv_at hl 0 rfl) ?_
      refine va_get (D := (dC, dI)) (ci := 5) (v := .ref (a 3)) (C := RX5) (T := TX5) (N := 11) hx hb hts (fun w h => List.mem_cons_of_mem _ (inWX5 w h)) hown hK hP 0 at_0 rfl 2 (by decide) (hts _ (List.mem_cons_of_mem _ kw_t1_159)) (fun _ h9 => h9) rfl dX5_needs_17 ?_
      refine lv_iload_n hx hb dX5_needs_20 rfl (lv_at hl 1 rfl) ?_
      refine lv_iload_n hx hb dX5_needs_21 rfl (lv_at hl 2 rfl) ?_
      have hFc := mA_free (a := a) hS hA hAc
      refine va_calli (va_runV (As := [.int p0, .int p1]) (rest := []) ⟨hx, hb, hml, hown, hts⟩ (c_X4_isDirect l dC dI cI cZ cS cC cJ a v H.size p0 p1 hD hI.self ix_2 hx_2 ex_2) (cwV 2 hts (gV (fun w h => List.mem_cons_of_mem _ h) kw_t1_207 kw_t1_208 kw_t1_209 kw_t1_2 kw_t1_210) rfl rfl rfl (by decide +kernel) ⟨Nat.le_of_ble_eq_true rfl, Nat.le_of_ble_eq_true rfl⟩) ⟨fun av U g mk q => by obtain ⟨q0, q1, qP, qK, qN⟩ := q; exact ⟨q0, q1, qP, va_K.moved (u := U) (U := U.calling g mk av) (Vm.Alike.refl U.vm) qK, mN_same qN⟩, va_recv hK hP (ci := 4) (q0 := 3) rfl at_3, fun U hU hW => ⟨rfl, by rw [hU], by rw [hU]; exact hP, va_K.moved hW.alike hK, mN_warm hW hN⟩⟩ rfl rfl hl.1 rfl (lv_room (Nat.le_of_ble_eq_true rfl)) dX5_needs_22 ⟨Nat.le_of_ble_eq_true rfl, Nat.le_of_ble_eq_true rfl⟩) hS (fun q _ h => hFc q h) hFc (fun r_9 _ t H locs ht hvm hw_9 hP _ _ hS => ?_)
      have hP := kt_heap2 ht hP
      clear ht hFc
      have hP : va_P (dC, dI) vwCl (mW cI cZ cS cC cJ a v) H := hP
      refine lv_iload_n hx hb dX5_needs_25 rfl (lv_at hl 3 rfl) ?_
      refine lv_icmp_ne (tgt := 31) hx hb dX5_needs_26 (by decide) (fun c_10 => ?_) (fun c_10 => ?_)
      · refine lv_iload_n hx hb dX5_needs_31 rfl (lv_at hl 3 rfl) ?_
        refine lv_if_eq (tgt := 54) hx hb dX5_needs_32 (by decide) (fun c_11 => ?_) (fun c_11 => ?_)
        · refine lv_aload_n hx hb dX5_needs_54 rfl (lv_at hl 0 rfl) ?_
          refine va_get (D := (dC, dI)) (ci := 5) (v := .ref (a 3)) (C := RX5) (T := TX5) (N := 11) hx hb hts (fun w h => List.mem_cons_of_mem _ (inWX5 w h)) hown hK hP 0 at_0 rfl 2 (by decide) (hts _ (List.mem_cons_of_mem _ kw_t1_159)) (fun _ h9 => h9) rfl dX5_needs_55 ?_
          refine lv_iload_n hx hb dX5_needs_58 rfl (lv_at hl 1 rfl) ?_
          refine lv_iload_n hx hb dX5_needs_59 rfl (lv_at hl 2 rfl) ?_
          refine lv_iload_n hx hb dX5_needs_60 rfl (lv_at hl 3 rfl) ?_
          have hFc := mA_free (a := a) hS hA hAc
          refine va_callv (va_runV (As := [.int p0, .int p1, .int p2]) (rest := []) ⟨hx, hb, hml, hown, hts⟩ (c_X4_put l dC dI cI cZ cS cC cJ a v H.size p0 p1 p2 hD hI.self ix_2 hx_2 ex_2) (cwV 3 hts (gV (fun w h => List.mem_cons_of_mem _ h) kw_t1_218 kw_t1_219 kw_t1_220 kw_t1_2 kw_t1_221) rfl rfl rfl (by decide +kernel) ⟨Nat.le_of_ble_eq_true rfl, Nat.le_of_ble_eq_true rfl⟩) ⟨fun av U g mk q => by obtain ⟨q0, q1, qP, qK, qN⟩ := q; exact ⟨q0, q1, qP, va_K.moved (u := U) (U := U.calling g mk av) (Vm.Alike.refl U.vm) qK, mN_same qN⟩, va_recv hK hP (ci := 4) (q0 := 3) rfl at_3, fun U hU hW => ⟨rfl, by rw [hU], by rw [hU]; exact hP, va_K.moved hW.alike hK, mN_warm hW hN⟩⟩ rfl rfl hl.1 rfl (lv_room (Nat.le_of_ble_eq_true rfl)) dX5_needs_61 ⟨Nat.le_of_ble_eq_true rfl, Nat.le_of_ble_eq_true rfl⟩) hS (fun q _ h => hFc q h) hFc (fun v_12 t H locs ht hvm hw_12 hP _ _ hS => ?_)
          have hP := kt_heap2 ht hP
          clear ht hFc
          have hP : va_P (dC, dI) vwCl (mW cI cZ cS cC cJ a v_12) H := hP
          have hI := hI.trans hw_12.1
          refine lv_iconst (v := 1) hx hb dX5_needs_64 (by decide) ?_
          have ck0 : ck p0 = ix_2 := ck_of ex_2 (by omega)
          have ck1 : ck p1 = ix_6 := ck_of ex_6 (by omega)
          obtain ⟨q9, hu9, hq9⟩ := hw_12.2
          have hf9 := put_fin hu9 (hq9 _ hx_6 ex_6) hb2
          exact W.zret (v := 1) (ty := .boolean) hx hb hr rfl (fun t ht hW => ⟨⟨1, v_12, rfl, ⟨hI, ⟨hf9.1, hf9.2.1, Or.inr ⟨rfl, ⟨his_2, his_6, fun z => c_10 (bit_eq hw_9.1 hb2 ((hw_9.2 _ (by omega) ex_6).trans (by rw [ck0, ck1] at z; exact z))), fun z => absurd c_11 z⟩, by rw [ck0, ck1]; exact hf9.2.2⟩⟩⟩, kt_heap ht hP⟩, hS.F ht⟩) hS.2.2 dX5_needs_65
        · refine lv_iload_n hx hb dX5_needs_35 rfl (lv_at hl 1 rfl) ?_
          refine lv_iload_n hx hb dX5_needs_36 rfl (lv_at hl 2 rfl) ?_
          refine lv_icmp_eq (tgt := 52) hx hb dX5_needs_37 (by decide) (fun c_13 => ?_) (fun c_13 => ?_)
          · refine lv_iconst (v := 0) hx hb dX5_needs_52 (by decide) ?_
            have ck0 : ck p0 = ix_2 := ck_of ex_2 (by omega)
            have ck1 : ck p1 = ix_6 := ck_of ex_6 (by omega)
            exact W.zret (v := 0) (ty := .boolean) hx hb hr rfl (fun t ht hW => ⟨⟨0, v, rfl, ⟨hI, ⟨rfl, rfl, Or.inl ⟨rfl, rfl, fun z => absurd c_13 (z.2.2.2 c_11).1⟩⟩⟩, kt_heap ht hP⟩, hS.F ht⟩) hS.2.2 dX5_needs_53
          · refine lv_aload_n hx hb dX5_needs_40 rfl (lv_at hl 0 rfl) ?_
            refine va_get (D := (dC, dI)) (ci := 5) (v := .ref (a 3)) (C := RX5) (T := TX5) (N := 11) hx hb hts (fun w h => List.mem_cons_of_mem _ (inWX5 w h)) hown hK hP 0 at_0 rfl 2 (by decide) (hts _ (List.mem_cons_of_mem _ kw_t1_159)) (fun _ h9 => h9) rfl dX5_needs_41 ?_
            refine lv_iload_n hx hb dX5_needs_44 rfl (lv_at hl 2 rfl) ?_
            refine lv_iload_n hx hb dX5_needs_45 rfl (lv_at hl 1 rfl) ?_
            have hFc := mA_free (a := a) hS hA hAc
            refine va_calli (va_runV (As := [.int p1, .int p0]) (rest := []) ⟨hx, hb, hml, hown, hts⟩ (c_X4_isReached l dC dI cI cZ cS cC cJ a v H.size p1 p0 hD hI.self ix_6 hx_6 ex_6) (cwV 2 hts (gV (fun w h => List.mem_cons_of_mem _ h) kw_t1_214 kw_t1_215 kw_t1_216 kw_t1_2 kw_t1_217) rfl rfl rfl (by decide +kernel) ⟨Nat.le_of_ble_eq_true rfl, Nat.le_of_ble_eq_true rfl⟩) ⟨fun av U g mk q => by obtain ⟨q0, q1, qP, qK, qN⟩ := q; exact ⟨q0, q1, qP, va_K.moved (u := U) (U := U.calling g mk av) (Vm.Alike.refl U.vm) qK, mN_same qN⟩, va_recv hK hP (ci := 4) (q0 := 3) rfl at_3, fun U hU hW => ⟨rfl, by rw [hU], by rw [hU]; exact hP, va_K.moved hW.alike hK, mN_warm hW hN⟩⟩ rfl rfl hl.1 rfl (lv_room (Nat.le_of_ble_eq_true rfl)) dX5_needs_46 ⟨Nat.le_of_ble_eq_true rfl, Nat.le_of_ble_eq_true rfl⟩) hS (fun q _ h => hFc q h) hFc (fun r_14 _ t H locs ht hvm hw_14 hP _ _ hS => ?_)
            have hP := kt_heap2 ht hP
            clear ht hFc
            have hP : va_P (dC, dI) vwCl (mW cI cZ cS cC cJ a v) H := hP
            refine lv_if_eq (tgt := 54) hx hb dX5_needs_49 (by decide) (fun c_15 => ?_) (fun c_15 => ?_)
            · refine lv_aload_n hx hb dX5_needs_54 rfl (lv_at hl 0 rfl) ?_
              refine va_get (D := (dC, dI)) (ci := 5) (v := .ref (a 3)) (C := RX5) (T := TX5) (N := 11) hx hb hts (fun w h => List.mem_cons_of_mem _ (inWX5 w h)) hown hK hP 0 at_0 rfl 2 (by decide) (hts _ (List.mem_cons_of_mem _ kw_t1_159)) (fun _ h9 => h9) rfl dX5_needs_55 ?_
              refine lv_iload_n hx hb dX5_needs_58 rfl (lv_at hl 1 rfl) ?_
              refine lv_iload_n hx hb dX5_needs_59 rfl (lv_at hl 2 rfl) ?_
              refine lv_iload_n hx hb dX5_needs_60 rfl (lv_at hl 3 rfl) ?_
              have hFc := mA_free (a := a) hS hA hAc
              refine va_callv (va_runV (As := [.int p0, .int p1, .int p2]) (rest := []) ⟨hx, hb, hml, hown, hts⟩ (c_X4_put l dC dI cI cZ cS cC cJ a v H.size p0 p1 p2 hD hI.self ix_2 hx_2 ex_2) (cwV 3 hts (gV (fun w h => List.mem_cons_of_mem _ h) kw_t1_218 kw_t1_219 kw_t1_220 kw_t1_2 kw_t1_221) rfl rfl rfl (by decide +kernel) ⟨Nat.le_of_ble_eq_true rfl, Nat.le_of_ble_eq_true rfl⟩) ⟨fun av U g mk q => by obtain ⟨q0, q1, qP, qK, qN⟩ := q; exact ⟨q0, q1, qP, va_K.moved (u := U) (U := U.calling g mk av) (Vm.Alike.refl U.vm) qK, mN_same qN⟩, va_recv hK hP (ci := 4) (q0 := 3) rfl at_3, fun U hU hW => ⟨rfl, by rw [hU], by rw [hU]; exact hP, va_K.moved hW.alike hK, mN_warm hW hN⟩⟩ rfl rfl hl.1 rfl (lv_room (Nat.le_of_ble_eq_true rfl)) dX5_needs_61 ⟨Nat.le_of_ble_eq_true rfl, Nat.le_of_ble_eq_true rfl⟩) hS (fun q _ h => hFc q h) hFc (fun v_16 t H locs ht hvm hw_16 hP _ _ hS => ?_)
              have hP := kt_heap2 ht hP
              clear ht hFc
              have hP : va_P (dC, dI) vwCl (mW cI cZ cS cC cJ a v_16) H := hP
              have hI := hI.trans hw_16.1
              refine lv_iconst (v := 1) hx hb dX5_needs_64 (by decide) ?_
              have ck0 : ck p0 = ix_2 := ck_of ex_2 (by omega)
              have ck1 : ck p1 = ix_6 := ck_of ex_6 (by omega)
              obtain ⟨q9, hu9, hq9⟩ := hw_16.2
              have hf9 := put_fin hu9 (hq9 _ hx_6 ex_6) hb2
              exact W.zret (v := 1) (ty := .boolean) hx hb hr rfl (fun t ht hW => ⟨⟨1, v_16, rfl, ⟨hI, ⟨hf9.1, hf9.2.1, Or.inr ⟨rfl, ⟨his_2, his_6, fun z => c_10 (bit_eq hw_9.1 hb2 ((hw_9.2 _ (by omega) ex_6).trans (by rw [ck0, ck1] at z; exact z))), fun _ => ⟨c_13, fun z => absurd ((hw_14.2 _ hx_2 ex_2).mpr (by rw [ck0, ck1] at z; exact z)) (by rw [c_15]; decide)⟩⟩, by rw [ck0, ck1]; exact hf9.2.2⟩⟩⟩, kt_heap ht hP⟩, hS.F ht⟩) hS.2.2 dX5_needs_65
            · refine lv_iconst (v := 0) hx hb dX5_needs_52 (by decide) ?_
              have ck0 : ck p0 = ix_2 := ck_of ex_2 (by omega)
              have ck1 : ck p1 = ix_6 := ck_of ex_6 (by omega)
              exact W.zret (v := 0) (ty := .boolean) hx hb hr rfl (fun t ht hW => ⟨⟨0, v, rfl, ⟨hI, ⟨rfl, rfl, Or.inl ⟨rfl, rfl, fun z => (z.2.2.2 c_11).2 (by rw [ck0, ck1]; exact (hw_14.2 _ hx_2 ex_2).mp (hw_14.1.resolve_left c_15))⟩⟩⟩, kt_heap ht hP⟩, hS.F ht⟩) hS.2.2 dX5_needs_53
      · refine lv_iconst (v := 0) hx hb dX5_needs_29 (by decide) ?_
        have ck0 : ck p0 = ix_2 := ck_of ex_2 (by omega)
        have ck1 : ck p1 = ix_6 := ck_of ex_6 (by omega)
        exact W.zret (v := 0) (ty := .boolean) hx hb hr rfl (fun t ht hW => ⟨⟨0, v, rfl, ⟨hI, ⟨rfl, rfl, Or.inl ⟨rfl, rfl, fun z => z.2.2.1 (by rw [ck0, ck1, ← c_10]; exact (hw_9.2 _ (by omega) ex_6).symm)⟩⟩⟩, kt_heap ht hP⟩, hS.F ht⟩) hS.2.2 dX5_needs_30

set_option maxHeartbeats 4000000 in
set_option maxRecDepth 100000 in
theorem c_X5_quiet (l : Launch) (dC : Nat → ClassId) (dI : Nat → Nat → Nat) (cI cZ cS cC cJ : ClassId) (a : Nat → Nat) (v : Nat → Nat → Int32) (sz : Nat) (p0 p1 : Int32) (hD : mDD a) (hI : kI v v) : Met l yX5_quiet (Cond.code yX5_quiet cX5_quiet 3 (some .boolean) :: WW) ({ frames := 1, cells := 0, slots := 0, locals := 30 }) (va_Pc [.ref (a 0), .int p0, .int p1] (fun U => U.heap.size = sz ∧ va_P (dC, dI) vwCl (mW cI cZ cS cC cJ a v) U.heap ∧ va_K (dC, dI) vwCl [(cI, .int), (cZ, .boolean), (cS, .object RX3), (cC, .object RX0), (cJ, .long)] U ∧ mN U)) (va_Qi (fun (r : Int32) (u : Nat → Nat → Int32) => kI v u ∧ (r = sp_quiet p0 p1)) (fun (u : Nat → Nat → Int32) (t : State) => va_P (dC, dI) vwCl (mW cI cZ cS cC cJ a u) t.heap) (mA a sz)) 0 0 (mA a sz) := by
  refine Met.ofW (cc := cX5_quiet) (maxL := 3) (ret := (some .boolean)) (by decide) rfl ?_
  intro p e s m args below meth c s₁ B hml hv
  obtain ⟨rfl, hsz, hP, hK, hN⟩ := hv
  have hx := B.exec
  have hb := B.bytes
  have hr := B.returns
  have hts := atoms_spec (ws := Cond.code yX5_quiet cX5_quiet 3 (some .boolean) :: WW) B.pre
  have hown : s.vm.findClass RX5 = some m.cls := findClass_of_methodNamed B.named
  have hlocks := B.notSynchronized
  subst hsz
  have hAc : ∀ c, c < 81 → mA a s.heap.size (a c) := fun c h => Or.inl ⟨c, h, rfl⟩
  have hA : ∀ q : Nat, s.heap.size ≤ q → mA a s.heap.size q := fun q h => Or.inr h
  generalize hAe : mA a s.heap.size = A at hAc hA ⊢
  have hS : va_S A s.heap s.heap [] := va_S.rf
  have hl := lv_entry ([.ref (a 0), .int p0, .int p1]) (n := 3) (Nat.le_of_ble_eq_true rfl)
  rw [lg_entry_eq]
  generalize (lg_sl ([.ref (a 0), .int p0, .int p1]) ++ List.replicate (3 - (lg_sl ([.ref (a 0), .int p0, .int p1])).length) Slot.unset).toArray = ls at hl ⊢
  have hl : lv_has ls 3 [(0, .ref (a 0)), (1, .int p0), (2, .int p1)] := hl
  refine lv_iload_n hx hb dX5_quiet_0 rfl (lv_at hl 1 rfl) ?_
  refine lv_if_lt (tgt := 22) hx hb dX5_quiet_1 (by decide) (fun c_1 => ?_) (fun c_1 => ?_)
  · refine lv_iconst (v := 0) hx hb dX5_quiet_22 (by decide) ?_
    exact W.zret (v := 0) (ty := .boolean) hx hb hr rfl (fun t ht hW => ⟨⟨0, v, rfl, ⟨hI, (by unfold sp_quiet; have z0 := c_1; (try simp only [Int32.lt_iff_toInt_lt, Int32.le_iff_toInt_le, ← Int32.toInt_inj, L0, L1, L2, L3, L4, L6, L9, L500, L5, L7, L10, L12, L15, L16, L20, L63, L1000, L1023, L2000, L10000, L100000, Lm1] at z0); rw [if_pos (by simp only [Int32.lt_iff_toInt_lt, Int32.le_iff_toInt_le, ← Int32.toInt_inj, L0, L1, L2, L3, L4, L6, L9, L500, L5, L7, L10, L12, L15, L16, L20, L63, L1000, L1023, L2000, L10000, L100000, Lm1]; omega)])⟩, kt_heap ht hP⟩, hS.F ht⟩) hS.2.2 dX5_quiet_23
  · refine lv_iload_n hx hb dX5_quiet_4 rfl (lv_at hl 1 rfl) ?_
    refine lv_sipush (v := 1000) hx hb dX5_quiet_5 (by decide) ?_
    refine lv_icmp_gt (tgt := 22) hx hb dX5_quiet_8 (by decide) (fun c_2 => ?_) (fun c_2 => ?_)
    · refine lv_iconst (v := 0) hx hb dX5_quiet_22 (by decide) ?_
      exact W.zret (v := 0) (ty := .boolean) hx hb hr rfl (fun t ht hW => ⟨⟨0, v, rfl, ⟨hI, (by unfold sp_quiet; have z0 := c_1; have z1 := c_2; (try simp only [Int32.lt_iff_toInt_lt, Int32.le_iff_toInt_le, ← Int32.toInt_inj, L0, L1, L2, L3, L4, L6, L9, L500, L5, L7, L10, L12, L15, L16, L20, L63, L1000, L1023, L2000, L10000, L100000, Lm1] at z0 z1); rw [if_pos (by simp only [Int32.lt_iff_toInt_lt, Int32.le_iff_toInt_le, ← Int32.toInt_inj, L0, L1, L2, L3, L4, L6, L9, L500, L5, L7, L10, L12, L15, L16, L20, L63, L1000, L1023, L2000, L10000, L100000, Lm1]; omega)])⟩, kt_heap ht hP⟩, hS.F ht⟩) hS.2.2 dX5_quiet_23
    · refine lv_iload_n hx hb dX5_quiet_11 rfl (lv_at hl 2 rfl) ?_
      refine lv_if_lt (tgt := 22) hx hb dX5_quiet_12 (by decide) (fun c_3 => ?_) (fun c_3 => ?_)
      · refine lv_iconst (v := 0) hx hb dX5_quiet_22 (by decide) ?_
        exact W.zret (v := 0) (ty := .boolean) hx hb hr rfl (fun t ht hW => ⟨⟨0, v, rfl, ⟨hI, (by unfold sp_quiet; have z0 := c_1; have z1 := c_2; have z2 := c_3; (try simp only [Int32.lt_iff_toInt_lt, Int32.le_iff_toInt_le, ← Int32.toInt_inj, L0, L1, L2, L3, L4, L6, L9, L500, L5, L7, L10, L12, L15, L16, L20, L63, L1000, L1023, L2000, L10000, L100000, Lm1] at z0 z1 z2); rw [if_pos (by simp only [Int32.lt_iff_toInt_lt, Int32.le_iff_toInt_le, ← Int32.toInt_inj, L0, L1, L2, L3, L4, L6, L9, L500, L5, L7, L10, L12, L15, L16, L20, L63, L1000, L1023, L2000, L10000, L100000, Lm1]; omega)])⟩, kt_heap ht hP⟩, hS.F ht⟩) hS.2.2 dX5_quiet_23
      · refine lv_iload_n hx hb dX5_quiet_15 rfl (lv_at hl 2 rfl) ?_
        refine lv_sipush (v := 10000) hx hb dX5_quiet_16 (by decide) ?_
        refine lv_icmp_le (tgt := 24) hx hb dX5_quiet_19 (by decide) (fun c_4 => ?_) (fun c_4 => ?_)
        · refine lv_aload_n hx hb dX5_quiet_24 rfl (lv_at hl 0 rfl) ?_
          refine lv_iload_n hx hb dX5_quiet_25 rfl (lv_at hl 1 rfl) ?_
          refine va_put (D := (dC, dI)) (ci := 5) (v := .int p0) (ty := .int) (C := RX5) (T := TX5) (N := 11) hx hb hts (fun w h => List.mem_cons_of_mem _ (inWX5 w h)) tyX5 tyX5_ok nmX5 hown hK hP (mD_of hD hAc) hS 0 at_0 rfl 7 (by decide) (hts _ (List.mem_cons_of_mem _ kw_t1_164)) (fun _ h9 => h9) rfl (by decide +kernel) rfl rfl (Nat.le_of_ble_eq_true rfl) dX5_quiet_26 (fun H locs hP _ hS => ?_)
          obtain ⟨v_5, ev_5⟩ : ∃ z, z = mU v 0 (upd (v 0) 7 p0) := ⟨_, rfl⟩
          have hP : va_P (dC, dI) vwCl (mW cI cZ cS cC cJ a v_5) H := by rw [ev_5]; exact mW_put hP (by omega) rfl
          have hI := hI.putK ev_5 (by decide)
          refine lv_aload_n hx hb dX5_quiet_29 rfl (lv_at hl 0 rfl) ?_
          refine lv_iload_n hx hb dX5_quiet_30 rfl (lv_at hl 2 rfl) ?_
          refine va_put (D := (dC, dI)) (ci := 5) (v := .int p1) (ty := .int) (C := RX5) (T := TX5) (N := 11) hx hb hts (fun w h => List.mem_cons_of_mem _ (inWX5 w h)) tyX5 tyX5_ok nmX5 hown hK hP (mD_of hD hAc) hS 0 at_0 rfl 8 (by decide) (hts _ (List.mem_cons_of_mem _ kw_t1_165)) (fun _ h9 => h9) rfl (by decide +kernel) rfl rfl (Nat.le_of_ble_eq_true rfl) dX5_quiet_31 (fun H locs hP _ hS => ?_)
          obtain ⟨v_6, ev_6⟩ : ∃ z, z = mU v_5 0 (upd (v_5 0) 8 p1) := ⟨_, rfl⟩
          have hP : va_P (dC, dI) vwCl (mW cI cZ cS cC cJ a v_6) H := by rw [ev_6]; exact mW_put hP (by omega) rfl
          have hI := hI.putK ev_6 (by decide)
          refine lv_iconst (v := 1) hx hb dX5_quiet_34 (by decide) ?_
          exact W.zret (v := 1) (ty := .boolean) hx hb hr rfl (fun t ht hW => ⟨⟨1, v_6, rfl, ⟨hI, (by unfold sp_quiet; have z0 := c_1; have z1 := c_2; have z2 := c_3; have z3 := c_4; (try simp only [Int32.lt_iff_toInt_lt, Int32.le_iff_toInt_le, ← Int32.toInt_inj, L0, L1, L2, L3, L4, L6, L9, L500, L5, L7, L10, L12, L15, L16, L20, L63, L1000, L1023, L2000, L10000, L100000, Lm1] at z0 z1 z2 z3); rw [if_neg (by simp only [Int32.lt_iff_toInt_lt, Int32.le_iff_toInt_le, ← Int32.toInt_inj, L0, L1, L2, L3, L4, L6, L9, L500, L5, L7, L10, L12, L15, L16, L20, L63, L1000, L1023, L2000, L10000, L100000, Lm1]; omega)])⟩, kt_heap ht hP⟩, hS.F ht⟩) hS.2.2 dX5_quiet_35
        · refine lv_iconst (v := 0) hx hb dX5_quiet_22 (by decide) ?_
          exact W.zret (v := 0) (ty := .boolean) hx hb hr rfl (fun t ht hW => ⟨⟨0, v, rfl, ⟨hI, (by unfold sp_quiet; have z0 := c_1; have z1 := c_2; have z2 := c_3; have z3 := c_4; (try simp only [Int32.lt_iff_toInt_lt, Int32.le_iff_toInt_le, ← Int32.toInt_inj, L0, L1, L2, L3, L4, L6, L9, L500, L5, L7, L10, L12, L15, L16, L20, L63, L1000, L1023, L2000, L10000, L100000, Lm1] at z0 z1 z2 z3); rw [if_pos (by simp only [Int32.lt_iff_toInt_lt, Int32.le_iff_toInt_le, ← Int32.toInt_inj, L0, L1, L2, L3, L4, L6, L9, L500, L5, L7, L10, L12, L15, L16, L20, L63, L1000, L1023, L2000, L10000, L100000, Lm1]; omega)])⟩, kt_heap ht hP⟩, hS.F ht⟩) hS.2.2 dX5_quiet_23

set_option maxHeartbeats 4000000 in
set_option maxRecDepth 100000 in
theorem c_X5_delay (l : Launch) (dC : Nat → ClassId) (dI : Nat → Nat → Nat) (cI cZ cS cC cJ : ClassId) (a : Nat → Nat) (v : Nat → Nat → Int32) (sz : Nat) (p0 p1 : Int32) (hD : mDD a) (hI : kI v v) : Met l yX5_delay (Cond.code yX5_delay cX5_delay 3 (some .boolean) :: WW) ({ frames := 1, cells := 0, slots := 0, locals := 30 }) (va_Pc [.ref (a 0), .int p0, .int p1] (fun U => U.heap.size = sz ∧ va_P (dC, dI) vwCl (mW cI cZ cS cC cJ a v) U.heap ∧ va_K (dC, dI) vwCl [(cI, .int), (cZ, .boolean), (cS, .object RX3), (cC, .object RX0), (cJ, .long)] U ∧ mN U)) (va_Qi (fun (r : Int32) (u : Nat → Nat → Int32) => kI v u ∧ (r = sp_delay p0 p1)) (fun (u : Nat → Nat → Int32) (t : State) => va_P (dC, dI) vwCl (mW cI cZ cS cC cJ a u) t.heap) (mA a sz)) 0 0 (mA a sz) := by
  refine Met.ofW (cc := cX5_delay) (maxL := 3) (ret := (some .boolean)) (by decide) rfl ?_
  intro p e s m args below meth c s₁ B hml hv
  obtain ⟨rfl, hsz, hP, hK, hN⟩ := hv
  have hx := B.exec
  have hb := B.bytes
  have hr := B.returns
  have hts := atoms_spec (ws := Cond.code yX5_delay cX5_delay 3 (some .boolean) :: WW) B.pre
  have hown : s.vm.findClass RX5 = some m.cls := findClass_of_methodNamed B.named
  have hlocks := B.notSynchronized
  subst hsz
  have hAc : ∀ c, c < 81 → mA a s.heap.size (a c) := fun c h => Or.inl ⟨c, h, rfl⟩
  have hA : ∀ q : Nat, s.heap.size ≤ q → mA a s.heap.size q := fun q h => Or.inr h
  generalize hAe : mA a s.heap.size = A at hAc hA ⊢
  have hS : va_S A s.heap s.heap [] := va_S.rf
  have hl := lv_entry ([.ref (a 0), .int p0, .int p1]) (n := 3) (Nat.le_of_ble_eq_true rfl)
  rw [lg_entry_eq]
  generalize (lg_sl ([.ref (a 0), .int p0, .int p1]) ++ List.replicate (3 - (lg_sl ([.ref (a 0), .int p0, .int p1])).length) Slot.unset).toArray = ls at hl ⊢
  have hl : lv_has ls 3 [(0, .ref (a 0)), (1, .int p0), (2, .int p1)] := hl
  refine lv_iload_n hx hb dX5_delay_0 rfl (lv_at hl 1 rfl) ?_
  refine lv_if_lt (tgt := 20) hx hb dX5_delay_1 (by decide) (fun c_1 => ?_) (fun c_1 => ?_)
  · refine lv_iconst (v := 0) hx hb dX5_delay_20 (by decide) ?_
    exact W.zret (v := 0) (ty := .boolean) hx hb hr rfl (fun t ht hW => ⟨⟨0, v, rfl, ⟨hI, (by unfold sp_delay; have z0 := c_1; (try simp only [Int32.lt_iff_toInt_lt, Int32.le_iff_toInt_le, ← Int32.toInt_inj, L0, L1, L2, L3, L4, L6, L9, L500, L5, L7, L10, L12, L15, L16, L20, L63, L1000, L1023, L2000, L10000, L100000, Lm1] at z0); rw [if_pos (by simp only [Int32.lt_iff_toInt_lt, Int32.le_iff_toInt_le, ← Int32.toInt_inj, L0, L1, L2, L3, L4, L6, L9, L500, L5, L7, L10, L12, L15, L16, L20, L63, L1000, L1023, L2000, L10000, L100000, Lm1]; omega)])⟩, kt_heap ht hP⟩, hS.F ht⟩) hS.2.2 dX5_delay_21
  · refine lv_iload_n hx hb dX5_delay_4 rfl (lv_at hl 1 rfl) ?_
    refine lv_bipush (v := 16) hx hb dX5_delay_5 (by decide) ?_
    refine lv_icmp_ge (tgt := 20) hx hb dX5_delay_7 (by decide) (fun c_2 => ?_) (fun c_2 => ?_)
    · refine lv_iconst (v := 0) hx hb dX5_delay_20 (by decide) ?_
      exact W.zret (v := 0) (ty := .boolean) hx hb hr rfl (fun t ht hW => ⟨⟨0, v, rfl, ⟨hI, (by unfold sp_delay; have z0 := c_1; have z1 := c_2; (try simp only [Int32.lt_iff_toInt_lt, Int32.le_iff_toInt_le, ← Int32.toInt_inj, L0, L1, L2, L3, L4, L6, L9, L500, L5, L7, L10, L12, L15, L16, L20, L63, L1000, L1023, L2000, L10000, L100000, Lm1] at z0 z1); rw [if_pos (by simp only [Int32.lt_iff_toInt_lt, Int32.le_iff_toInt_le, ← Int32.toInt_inj, L0, L1, L2, L3, L4, L6, L9, L500, L5, L7, L10, L12, L15, L16, L20, L63, L1000, L1023, L2000, L10000, L100000, Lm1]; omega)])⟩, kt_heap ht hP⟩, hS.F ht⟩) hS.2.2 dX5_delay_21
    · refine lv_iload_n hx hb dX5_delay_10 rfl (lv_at hl 2 rfl) ?_
      refine lv_if_lt (tgt := 20) hx hb dX5_delay_11 (by decide) (fun c_3 => ?_) (fun c_3 => ?_)
      · refine lv_iconst (v := 0) hx hb dX5_delay_20 (by decide) ?_
        exact W.zret (v := 0) (ty := .boolean) hx hb hr rfl (fun t ht hW => ⟨⟨0, v, rfl, ⟨hI, (by unfold sp_delay; have z0 := c_1; have z1 := c_2; have z2 := c_3; (try simp only [Int32.lt_iff_toInt_lt, Int32.le_iff_toInt_le, ← Int32.toInt_inj, L0, L1, L2, L3, L4, L6, L9, L500, L5, L7, L10, L12, L15, L16, L20, L63, L1000, L1023, L2000, L10000, L100000, Lm1] at z0 z1 z2); rw [if_pos (by simp only [Int32.lt_iff_toInt_lt, Int32.le_iff_toInt_le, ← Int32.toInt_inj, L0, L1, L2, L3, L4, L6, L9, L500, L5, L7, L10, L12, L15, L16, L20, L63, L1000, L1023, L2000, L10000, L100000, Lm1]; omega)])⟩, kt_heap ht hP⟩, hS.F ht⟩) hS.2.2 dX5_delay_21
      · refine lv_iload_n hx hb dX5_delay_14 rfl (lv_at hl 2 rfl) ?_
        refine lv_bipush (v := 20) hx hb dX5_delay_15 (by decide) ?_
        refine lv_icmp_le (tgt := 22) hx hb dX5_delay_17 (by decide) (fun c_4 => ?_) (fun c_4 => ?_)
        · refine lv_aload_n hx hb dX5_delay_22 rfl (lv_at hl 0 rfl) ?_
          refine va_get (D := (dC, dI)) (ci := 5) (v := .ref (a 5)) (C := RX5) (T := TX5) (N := 11) hx hb hts (fun w h => List.mem_cons_of_mem _ (inWX5 w h)) hown hK hP 0 at_0 rfl 3 (by decide) (hts _ (List.mem_cons_of_mem _ kw_t1_160)) (fun _ h9 => h9) rfl dX5_delay_23 ?_
          refine va_get (D := (dC, dI)) (ci := 2) (v := .ref (a 6)) (C := RX2) (T := TX2) (N := 2) hx hb hts (fun w h => List.mem_cons_of_mem _ (inWX2 w h)) hown hK hP 5 at_5 rfl 0 (by decide) (hts _ (List.mem_cons_of_mem _ kw_t1_45)) (fun _ h9 => h9) rfl dX5_delay_26 ?_
          refine lv_iload_n hx hb dX5_delay_29 rfl (lv_at hl 1 rfl) ?_
          refine lv_iload_n hx hb dX5_delay_30 rfl (lv_at hl 2 rfl) ?_
          refine va_iast hx hb hK hP (mD_of hD hAc) hS 6 0 at_6 rfl (vp_in_iff.mpr (by have z0 := c_1; have z1 := c_2; have z2 := c_3; have z3 := c_4; simp only [Int32.lt_iff_toInt_lt, Int32.le_iff_toInt_le, L0, L1, L5, L16, L10, L12, L15, L20, L63, L1000, L1023, L2000, L10000, L100000, Lm1] at z0 z1 z2 z3; omega)) dX5_delay_31 (fun H locs hP _ hS => ?_)
          obtain ⟨v_5, ev_5⟩ : ∃ z, z = mU v 6 (upd (v 6) ((p0 : Int32).toNatClampNeg) p1) := ⟨_, rfl⟩
          have hP : va_P (dC, dI) vwCl (mW cI cZ cS cC cJ a v_5) H := by rw [ev_5]; exact mW_put hP (by omega) rfl
          have hI := hI.put ev_5 (by omega)
          refine lv_iconst (v := 1) hx hb dX5_delay_32 (by decide) ?_
          exact W.zret (v := 1) (ty := .boolean) hx hb hr rfl (fun t ht hW => ⟨⟨1, v_5, rfl, ⟨hI, (by unfold sp_delay; have z0 := c_1; have z1 := c_2; have z2 := c_3; have z3 := c_4; (try simp only [Int32.lt_iff_toInt_lt, Int32.le_iff_toInt_le, ← Int32.toInt_inj, L0, L1, L2, L3, L4, L6, L9, L500, L5, L7, L10, L12, L15, L16, L20, L63, L1000, L1023, L2000, L10000, L100000, Lm1] at z0 z1 z2 z3); rw [if_neg (by simp only [Int32.lt_iff_toInt_lt, Int32.le_iff_toInt_le, ← Int32.toInt_inj, L0, L1, L2, L3, L4, L6, L9, L500, L5, L7, L10, L12, L15, L16, L20, L63, L1000, L1023, L2000, L10000, L100000, Lm1]; omega)])⟩, kt_heap ht hP⟩, hS.F ht⟩) hS.2.2 dX5_delay_33
        · refine lv_iconst (v := 0) hx hb dX5_delay_20 (by decide) ?_
          exact W.zret (v := 0) (ty := .boolean) hx hb hr rfl (fun t ht hW => ⟨⟨0, v, rfl, ⟨hI, (by unfold sp_delay; have z0 := c_1; have z1 := c_2; have z2 := c_3; have z3 := c_4; (try simp only [Int32.lt_iff_toInt_lt, Int32.le_iff_toInt_le, ← Int32.toInt_inj, L0, L1, L2, L3, L4, L6, L9, L500, L5, L7, L10, L12, L15, L16, L20, L63, L1000, L1023, L2000, L10000, L100000, Lm1] at z0 z1 z2 z3); rw [if_pos (by simp only [Int32.lt_iff_toInt_lt, Int32.le_iff_toInt_le, ← Int32.toInt_inj, L0, L1, L2, L3, L4, L6, L9, L500, L5, L7, L10, L12, L15, L16, L20, L63, L1000, L1023, L2000, L10000, L100000, Lm1]; omega)])⟩, kt_heap ht hP⟩, hS.F ht⟩) hS.2.2 dX5_delay_21

set_option maxHeartbeats 4000000 in
set_option maxRecDepth 100000 in
theorem c_X5_down (l : Launch) (dC : Nat → ClassId) (dI : Nat → Nat → Nat) (cI cZ cS cC cJ : ClassId) (a : Nat → Nat) (v : Nat → Nat → Int32) (sz : Nat) (p0 p1 : Int32) (hD : mDD a) (hI : kI v v) (hb1 : p1 = 0 ∨ p1 = 1) : Met l yX5_down (Cond.code yX5_down cX5_down 3 (some .boolean) :: WW) ({ frames := 1, cells := 0, slots := 0, locals := 30 }) (va_Pc [.ref (a 0), .int p0, .int p1] (fun U => U.heap.size = sz ∧ va_P (dC, dI) vwCl (mW cI cZ cS cC cJ a v) U.heap ∧ va_K (dC, dI) vwCl [(cI, .int), (cZ, .boolean), (cS, .object RX3), (cC, .object RX0), (cJ, .long)] U ∧ mN U)) (va_Qi (fun (r : Int32) (u : Nat → Nat → Int32) => kJ v u ∧ (u 0 = v 0 ∧ ((r = 0 ∧ u 5 1 = v 5 1 ∧ ∀ w, w < 17 → p0 = nI w → (p1 = 1 ↔ dnb (v 5 1) w)) ∨ (r = 1 ∧ ∃ w, w < 17 ∧ p0 = nI w ∧ ¬ (p1 = 1 ↔ dnb (v 5 1) w) ∧ u 5 1 = v 5 1 ^^^ ((1 : Int32) <<< (nI w &&& 31)))))) (fun (u : Nat → Nat → Int32) (t : State) => va_P (dC, dI) vwCl (mW cI cZ cS cC cJ a u) t.heap) (mA a sz)) 0 0 (mA a sz) := by
  refine Met.ofW (cc := cX5_down) (maxL := 3) (ret := (some .boolean)) (by decide) rfl ?_
  intro p e s m args below meth c s₁ B hml hv
  obtain ⟨rfl, hsz, hP, hK, hN⟩ := hv
  have hx := B.exec
  have hb := B.bytes
  have hr := B.returns
  have hts := atoms_spec (ws := Cond.code yX5_down cX5_down 3 (some .boolean) :: WW) B.pre
  have hown : s.vm.findClass RX5 = some m.cls := findClass_of_methodNamed B.named
  have hlocks := B.notSynchronized
  subst hsz
  have hAc : ∀ c, c < 81 → mA a s.heap.size (a c) := fun c h => Or.inl ⟨c, h, rfl⟩
  have hA : ∀ q : Nat, s.heap.size ≤ q → mA a s.heap.size q := fun q h => Or.inr h
  generalize hAe : mA a s.heap.size = A at hAc hA ⊢
  have hS : va_S A s.heap s.heap [] := va_S.rf
  have hl := lv_entry ([.ref (a 0), .int p0, .int p1]) (n := 3) (Nat.le_of_ble_eq_true rfl)
  rw [lg_entry_eq]
  generalize (lg_sl ([.ref (a 0), .int p0, .int p1]) ++ List.replicate (3 - (lg_sl ([.ref (a 0), .int p0, .int p1])).length) Slot.unset).toArray = ls at hl ⊢
  have hl : lv_has ls 3 [(0, .ref (a 0)), (1, .int p0), (2, .int p1)] := hl
  have hI := hI.toJ
  refine lv_iload_n hx hb dX5_down_0 rfl (lv_at hl 1 rfl) ?_
  refine lv_if_lt (tgt := 22) hx hb dX5_down_1 (by decide) (fun c_1 => ?_) (fun c_1 => ?_)
  · refine lv_iconst (v := 0) hx hb dX5_down_22 (by decide) ?_
    exact W.zret (v := 0) (ty := .boolean) hx hb hr rfl (fun t ht hW => ⟨⟨0, v, rfl, ⟨hI, ⟨rfl, Or.inl ⟨rfl, rfl, fun w hw e => absurd c_1 (by rw [e, Int32.lt_iff_toInt_lt, nI_toInt (by omega)]; simp only [L0, L16]; omega)⟩⟩⟩, kt_heap ht hP⟩, hS.F ht⟩) hS.2.2 dX5_down_23
  · refine lv_iload_n hx hb dX5_down_4 rfl (lv_at hl 1 rfl) ?_
    refine lv_bipush (v := 16) hx hb dX5_down_5 (by decide) ?_
    refine lv_icmp_gt (tgt := 22) hx hb dX5_down_7 (by decide) (fun c_2 => ?_) (fun c_2 => ?_)
    · refine lv_iconst (v := 0) hx hb dX5_down_22 (by decide) ?_
      exact W.zret (v := 0) (ty := .boolean) hx hb hr rfl (fun t ht hW => ⟨⟨0, v, rfl, ⟨hI, ⟨rfl, Or.inl ⟨rfl, rfl, fun w hw e => absurd c_2 (by rw [e, Int32.lt_iff_toInt_lt, nI_toInt (by omega)]; simp only [L0, L16]; omega)⟩⟩⟩, kt_heap ht hP⟩, hS.F ht⟩) hS.2.2 dX5_down_23
    · refine lv_aload_n hx hb dX5_down_10 rfl (lv_at hl 0 rfl) ?_
      refine va_get (D := (dC, dI)) (ci := 5) (v := .ref (a 5)) (C := RX5) (T := TX5) (N := 11) hx hb hts (fun w h => List.mem_cons_of_mem _ (inWX5 w h)) hown hK hP 0 at_0 rfl 3 (by decide) (hts _ (List.mem_cons_of_mem _ kw_t1_160)) (fun _ h9 => h9) rfl dX5_down_11 ?_
      refine lv_iload_n hx hb dX5_down_14 rfl (lv_at hl 1 rfl) ?_
      have hFc := mA_free (a := a) hS hA hAc
      refine va_calli (va_runV (As := [.int p0]) (rest := []) ⟨hx, hb, hml, hown, hts⟩ (c_X2_isDown l dC dI cI cZ cS cC cJ a v s.heap.size p0 hD hI.self) (cwV 1 hts (gV (fun w h => List.mem_cons_of_mem _ h) kw_t1_234 kw_t1_235 kw_t1_236 kw_t1_3 kw_t1_237) rfl rfl rfl (by decide +kernel) ⟨Nat.le_of_ble_eq_true rfl, Nat.le_of_ble_eq_true rfl⟩) ⟨fun av U g mk q => by obtain ⟨q0, q1, qP, qK, qN⟩ := q; exact ⟨q0, q1, qP, va_K.moved (u := U) (U := U.calling g mk av) (Vm.Alike.refl U.vm) qK, mN_same qN⟩, va_recv hK hP (ci := 2) (q0 := 5) rfl at_5, fun U hU hW => ⟨rfl, by rw [hU], by rw [hU]; exact hP, va_K.moved hW.alike hK, mN_warm hW hN⟩⟩ rfl rfl hl.1 rfl (lv_room (Nat.le_of_ble_eq_true rfl)) dX5_down_15 ⟨Nat.le_of_ble_eq_true rfl, Nat.le_of_ble_eq_true rfl⟩) hS (fun q _ h => hFc q h) hFc (fun r_3 _ t H locs ht hvm hw_3 hP _ _ hS => ?_)
      have hP := kt_heap2 ht hP
      clear ht hFc
      have hP : va_P (dC, dI) vwCl (mW cI cZ cS cC cJ a v) H := hP
      refine lv_iload_n hx hb dX5_down_18 rfl (lv_at hl 2 rfl) ?_
      refine lv_icmp_ne (tgt := 24) hx hb dX5_down_19 (by decide) (fun c_4 => ?_) (fun c_4 => ?_)
      · refine lv_aload_n hx hb dX5_down_24 rfl (lv_at hl 0 rfl) ?_
        refine va_get (D := (dC, dI)) (ci := 5) (v := .ref (a 5)) (C := RX5) (T := TX5) (N := 11) hx hb hts (fun w h => List.mem_cons_of_mem _ (inWX5 w h)) hown hK hP 0 at_0 rfl 3 (by decide) (hts _ (List.mem_cons_of_mem _ kw_t1_160)) (fun _ h9 => h9) rfl dX5_down_25 ?_
        refine lv_dup hx hb dX5_down_28 rfl ?_
        refine va_get (D := (dC, dI)) (ci := 2) (v := .int (v 5 1)) (C := RX2) (T := TX2) (N := 2) hx hb hts (fun w h => List.mem_cons_of_mem _ (inWX2 w h)) hown hK hP 5 at_5 rfl 1 (by decide) (hts _ (List.mem_cons_of_mem _ kw_t1_48)) (fun _ h9 => h9) rfl dX5_down_29 ?_
        refine lv_topi (fun t_5 et_5 => ?_)
        refine lv_iconst (v := 1) hx hb dX5_down_32 (by decide) ?_
        refine lv_iload_n hx hb dX5_down_33 rfl (lv_at hl 1 rfl) ?_
        refine lv_ishl hx hb dX5_down_34 ?_
        refine lv_topi (fun t_6 et_6 => ?_)
        refine lv_ixor hx hb dX5_down_35 ?_
        refine lv_topi (fun t_7 et_7 => ?_)
        refine va_put (D := (dC, dI)) (ci := 2) (v := .int t_7) (ty := .int) (C := RX2) (T := TX2) (N := 2) hx hb hts (fun w h => List.mem_cons_of_mem _ (inWX2 w h)) tyX2 tyX2_ok nmX2 hown hK hP (mD_of hD hAc) hS 5 at_5 rfl 1 (by decide) (hts _ (List.mem_cons_of_mem _ kw_t1_48)) (fun _ h9 => h9) rfl (by decide +kernel) rfl rfl (Nat.le_of_ble_eq_true rfl) dX5_down_36 (fun H locs hP _ hS => ?_)
        obtain ⟨v_8, ev_8⟩ : ∃ z, z = mU v 5 (upd (v 5) 1 t_7) := ⟨_, rfl⟩
        have hP : va_P (dC, dI) vwCl (mW cI cZ cS cC cJ a v_8) H := by rw [ev_8]; exact mW_put hP (by omega) rfl
        have hI := hI.put ev_8 (by omega)
        refine lv_iconst (v := 1) hx hb dX5_down_39 (by decide) ?_
        obtain ⟨ix_9, hx_9, ex_9⟩ := kt_idx (x := p0) (n := 17) (by have z0 := c_1; have z1 := c_2; have z2 := c_4; (try simp only [Int32.lt_iff_toInt_lt, Int32.le_iff_toInt_le, ← Int32.toInt_inj, L0, L1, L2, L3, L4, L6, L9, L500, L5, L7, L10, L12, L15, L16, L20, L63, L1000, L1023, L2000, L10000, L100000, Lm1] at z0 z1 z2); omega) (by have z0 := c_1; have z1 := c_2; have z2 := c_4; (try simp only [Int32.lt_iff_toInt_lt, Int32.le_iff_toInt_le, ← Int32.toInt_inj, L0, L1, L2, L3, L4, L6, L9, L500, L5, L7, L10, L12, L15, L16, L20, L63, L1000, L1023, L2000, L10000, L100000, Lm1] at z0 z1 z2); omega)
        exact W.zret (v := 1) (ty := .boolean) hx hb hr rfl (fun t ht hW => ⟨⟨1, v_8, rfl, ⟨hI, ⟨(by rw [ev_8, mU_ne _ _ (by first | decide | omega)]), Or.inr ⟨rfl, ix_9, hx_9, ex_9, fun z => c_4 (bit_eq hw_3.1 hb1 ((hw_3.2 _ hx_9 ex_9).trans z.symm)), by rw [ev_8, mU_self]; simp only [upd, if_true]; rw [et_7, et_5, et_6, ex_9]⟩⟩⟩, kt_heap ht hP⟩, hS.F ht⟩) hS.2.2 dX5_down_40
      · refine lv_iconst (v := 0) hx hb dX5_down_22 (by decide) ?_
        exact W.zret (v := 0) (ty := .boolean) hx hb hr rfl (fun t ht hW => ⟨⟨0, v, rfl, ⟨hI, ⟨rfl, Or.inl ⟨rfl, rfl, fun w hw e => by rw [← c_4]; exact hw_3.2 w hw e⟩⟩⟩, kt_heap ht hP⟩, hS.F ht⟩) hS.2.2 dX5_down_23

set_option maxHeartbeats 4000000 in
set_option maxRecDepth 100000 in
theorem c_X5_turn (l : Launch) (dC : Nat → ClassId) (dI : Nat → Nat → Nat) (cI cZ cS cC cJ : ClassId) (a : Nat → Nat) (v : Nat → Nat → Int32) (sz : Nat) (p0 : Int32) (hD : mDD a) (hI : kI v v) : Met l yX5_turn (Cond.code yX5_turn cX5_turn 2 (some .int) :: WW) ({ frames := 5, cells := 0, slots := 0, locals := 150 }) (va_Pc [.ref (a 0), .int p0] (fun U => U.heap.size = sz ∧ va_P (dC, dI) vwCl (mW cI cZ cS cC cJ a v) U.heap ∧ va_K (dC, dI) vwCl [(cI, .int), (cZ, .boolean), (cS, .object RX3), (cC, .object RX0), (cJ, .long)] U ∧ mN U)) (va_Qi (fun (r : Int32) (u : Nat → Nat → Int32) => kI v u) (fun (u : Nat → Nat → Int32) (t : State) => va_P (dC, dI) vwCl (mW cI cZ cS cC cJ a u) t.heap) (mA a sz)) 0 0 (mA a sz) := by
  refine Met.ofW (cc := cX5_turn) (maxL := 2) (ret := (some .int)) (by decide) rfl ?_
  intro p e s m args below meth c s₁ B hml hv
  obtain ⟨rfl, hsz, hP, hK, hN⟩ := hv
  have hx := B.exec
  have hb := B.bytes
  have hr := B.returns
  have hts := atoms_spec (ws := Cond.code yX5_turn cX5_turn 2 (some .int) :: WW) B.pre
  have hown : s.vm.findClass RX5 = some m.cls := findClass_of_methodNamed B.named
  have hlocks := B.notSynchronized
  subst hsz
  have hAc : ∀ c, c < 81 → mA a s.heap.size (a c) := fun c h => Or.inl ⟨c, h, rfl⟩
  have hA : ∀ q : Nat, s.heap.size ≤ q → mA a s.heap.size q := fun q h => Or.inr h
  generalize hAe : mA a s.heap.size = A at hAc hA ⊢
  have hS : va_S A s.heap s.heap [] := va_S.rf
  have hl := lv_entry ([.ref (a 0), .int p0]) (n := 2) (Nat.le_of_ble_eq_true rfl)
  rw [lg_entry_eq]
  generalize (lg_sl ([.ref (a 0), .int p0]) ++ List.replicate (2 - (lg_sl ([.ref (a 0), .int p0])).length) Slot.unset).toArray = ls at hl ⊢
  have hl : lv_has ls 2 [(0, .ref (a 0)), (1, .int p0)] := hl
  refine lv_aload_n hx hb dX5_turn_0 rfl (lv_at hl 0 rfl) ?_
  refine lv_iload_n hx hb dX5_turn_1 rfl (lv_at hl 1 rfl) ?_
  have hFc := mA_free (a := a) hS hA hAc
  refine va_calli (va_runV (As := [.int p0]) (rest := []) ⟨hx, hb, hml, hown, hts⟩ (c_X5_isSecret l dC dI cI cZ cS cC cJ a v s.heap.size p0 hD hI.self) (cwV 1 hts (gV (fun w h => List.mem_cons_of_mem _ h) kw_t1_203 kw_t1_205 kw_s0_0 kw_t1_1 kw_t1_206) rfl rfl rfl (by decide +kernel) ⟨Nat.le_of_ble_eq_true rfl, Nat.le_of_ble_eq_true rfl⟩) ⟨fun av U g mk q => by obtain ⟨q0, q1, qP, qK, qN⟩ := q; exact ⟨q0, q1, qP, va_K.moved (u := U) (U := U.calling g mk av) (Vm.Alike.refl U.vm) qK, mN_same qN⟩, va_recv hK hP (ci := 5) (q0 := 0) rfl at_0, fun U hU hW => ⟨rfl, by rw [hU], by rw [hU]; exact hP, va_K.moved hW.alike hK, mN_warm hW hN⟩⟩ rfl rfl hl.1 rfl (lv_room (Nat.le_of_ble_eq_true rfl)) dX5_turn_2 ⟨Nat.le_of_ble_eq_true rfl, Nat.le_of_ble_eq_true rfl⟩) hS (fun q _ h => hFc q h) hFc (fun r_1 _ t H locs ht hvm hw_1 hP _ _ hS => ?_)
  have hP := kt_heap2 ht hP
  clear ht hFc
  have hP : va_P (dC, dI) vwCl (mW cI cZ cS cC cJ a v) H := hP
  rcases hw_1 with ⟨hz_2, hns_2⟩ | ⟨hz_2, his_2, ix_2, hx_2, ex_2⟩
  · subst hz_2
    refine lv_if_eq (tgt := 28) hx hb dX5_turn_5 (by decide) (fun c_3 => ?_) (fun c_3 => absurd (by decide) c_3)
    refine lv_iconst (v := (-1)) hx hb dX5_turn_28 (by decide) ?_
    exact W.iret (v := (-1)) hx hb hr (fun t ht hW => ⟨⟨(-1), v, rfl, hI, kt_heap ht hP⟩, hS.F ht⟩) hS.2.2 dX5_turn_29
  · subst hz_2
    refine lv_if_eq (tgt := 28) hx hb dX5_turn_5 (by decide) (fun c_4 => absurd c_4 (by decide)) (fun c_4 => ?_)
    refine lv_aload_n hx hb dX5_turn_8 rfl (lv_at hl 0 rfl) ?_
    refine va_get (D := (dC, dI)) (ci := 5) (v := .ref (a 5)) (C := RX5) (T := TX5) (N := 11) hx hb hts (fun w h => List.mem_cons_of_mem _ (inWX5 w h)) hown hK hP 0 at_0 rfl 3 (by decide) (hts _ (List.mem_cons_of_mem _ kw_t1_160)) (fun _ h9 => h9) rfl dX5_turn_9 ?_
    refine lv_bipush (v := 16) hx hb dX5_turn_12 (by decide) ?_
    have hFc := mA_free (a := a) hS hA hAc
    refine va_calli (va_runV (As := [.int 16]) (rest := []) ⟨hx, hb, hml, hown, hts⟩ (c_X2_isDown l dC dI cI cZ cS cC cJ a v H.size 16 hD hI.self) (cwV 1 hts (gV (fun w h => List.mem_cons_of_mem _ h) kw_t1_234 kw_t1_235 kw_t1_236 kw_t1_3 kw_t1_237) rfl rfl rfl (by decide +kernel) ⟨Nat.le_of_ble_eq_true rfl, Nat.le_of_ble_eq_true rfl⟩) ⟨fun av U g mk q => by obtain ⟨q0, q1, qP, qK, qN⟩ := q; exact ⟨q0, q1, qP, va_K.moved (u := U) (U := U.calling g mk av) (Vm.Alike.refl U.vm) qK, mN_same qN⟩, va_recv hK hP (ci := 2) (q0 := 5) rfl at_5, fun U hU hW => ⟨rfl, by rw [hU], by rw [hU]; exact hP, va_K.moved hW.alike hK, mN_warm hW hN⟩⟩ rfl rfl hl.1 rfl (lv_room (Nat.le_of_ble_eq_true rfl)) dX5_turn_14 ⟨Nat.le_of_ble_eq_true rfl, Nat.le_of_ble_eq_true rfl⟩) hS (fun q _ h => hFc q h) hFc (fun r_5 _ t H locs ht hvm hw_5 hP _ _ hS => ?_)
    have hP := kt_heap2 ht hP
    clear ht hFc
    have hP : va_P (dC, dI) vwCl (mW cI cZ cS cC cJ a v) H := hP
    refine lv_if_ne (tgt := 28) hx hb dX5_turn_17 (by decide) (fun c_6 => ?_) (fun c_6 => ?_)
    · refine lv_iconst (v := (-1)) hx hb dX5_turn_28 (by decide) ?_
      exact W.iret (v := (-1)) hx hb hr (fun t ht hW => ⟨⟨(-1), v, rfl, hI, kt_heap ht hP⟩, hS.F ht⟩) hS.2.2 dX5_turn_29
    · refine lv_aload_n hx hb dX5_turn_20 rfl (lv_at hl 0 rfl) ?_
      refine lv_iload_n hx hb dX5_turn_21 rfl (lv_at hl 1 rfl) ?_
      have hFc := mA_free (a := a) hS hA hAc
      refine va_calli (va_runV (As := [.int p0]) (rest := []) ⟨hx, hb, hml, hown, hts⟩ (c_X5_isHeldUp l dC dI cI cZ cS cC cJ a v H.size p0 hD hI.self (⟨ix_2, hx_2, ex_2⟩)) (cwV 1 hts (gV (fun w h => List.mem_cons_of_mem _ h) kw_t2_2 kw_t2_4 kw_s0_1 kw_t1_1 kw_t2_5) rfl rfl rfl (by decide +kernel) ⟨Nat.le_of_ble_eq_true rfl, Nat.le_of_ble_eq_true rfl⟩) ⟨fun av U g mk q => by obtain ⟨q0, q1, qP, qK, qN⟩ := q; exact ⟨q0, q1, qP, va_K.moved (u := U) (U := U.calling g mk av) (Vm.Alike.refl U.vm) qK, mN_same qN⟩, va_recv hK hP (ci := 5) (q0 := 0) rfl at_0, fun U hU hW => ⟨rfl, by rw [hU], by rw [hU]; exact hP, va_K.moved hW.alike hK, mN_warm hW hN⟩⟩ rfl rfl hl.1 rfl (lv_room (Nat.le_of_ble_eq_true rfl)) dX5_turn_22 ⟨Nat.le_of_ble_eq_true rfl, Nat.le_of_ble_eq_true rfl⟩) hS (fun q _ h => hFc q h) hFc (fun r_7 _ t H locs ht hvm hw_7 hP _ _ hS => ?_)
      have hP := kt_heap2 ht hP
      clear ht hFc
      have hP : va_P (dC, dI) vwCl (mW cI cZ cS cC cJ a v) H := hP
      refine lv_if_eq (tgt := 30) hx hb dX5_turn_25 (by decide) (fun c_8 => ?_) (fun c_8 => ?_)
      · refine lv_aload_n hx hb dX5_turn_30 rfl (lv_at hl 0 rfl) ?_
        refine lv_iload_n hx hb dX5_turn_31 rfl (lv_at hl 1 rfl) ?_
        refine lv_iconst (v := 0) hx hb dX5_turn_32 (by decide) ?_
        have hFc := mA_free (a := a) hS hA hAc
        refine va_callv (va_runV (As := [.int p0, .int 0]) (rest := []) ⟨hx, hb, hml, hown, hts⟩ (c_X5_beginTurn l dC dI cI cZ cS cC cJ a v H.size p0 0 hD hI.self (⟨ix_2, hx_2, ex_2⟩)) (cwV 2 hts (gV (fun w h => List.mem_cons_of_mem _ h) kw_t2_10 kw_t2_12 kw_s0_2 kw_t1_1 kw_t2_13) rfl rfl rfl (by decide +kernel) ⟨Nat.le_of_ble_eq_true rfl, Nat.le_of_ble_eq_true rfl⟩) ⟨fun av U g mk q => by obtain ⟨q0, q1, qP, qK, qN⟩ := q; exact ⟨q0, q1, qP, va_K.moved (u := U) (U := U.calling g mk av) (Vm.Alike.refl U.vm) qK, mN_same qN⟩, va_recv hK hP (ci := 5) (q0 := 0) rfl at_0, fun U hU hW => ⟨rfl, by rw [hU], by rw [hU]; exact hP, va_K.moved hW.alike hK, mN_warm hW hN⟩⟩ rfl rfl hl.1 rfl (lv_room (Nat.le_of_ble_eq_true rfl)) dX5_turn_33 ⟨Nat.le_of_ble_eq_true rfl, Nat.le_of_ble_eq_true rfl⟩) hS (fun q _ h => hFc q h) hFc (fun v_9 t H locs ht hvm hw_9 hP _ _ hS => ?_)
        have hP := kt_heap2 ht hP
        clear ht hFc
        have hP : va_P (dC, dI) vwCl (mW cI cZ cS cC cJ a v_9) H := hP
        have hI := hI.trans hw_9
        refine lv_aload_n hx hb dX5_turn_36 rfl (lv_at hl 0 rfl) ?_
        refine va_get (D := (dC, dI)) (ci := 5) (v := .ref (a 1)) (C := RX5) (T := TX5) (N := 11) hx hb hts (fun w h => List.mem_cons_of_mem _ (inWX5 w h)) hown hK hP 0 at_0 rfl 0 (by decide) (hts _ (List.mem_cons_of_mem _ kw_t1_157)) (fun _ h9 => h9) rfl dX5_turn_37 ?_
        refine lv_iload_n hx hb dX5_turn_40 rfl (lv_at hl 1 rfl) ?_
        refine m_aldS hx hb hK hP ex_2 hx_2 dX5_turn_41 ?_
        refine va_get (D := (dC, dI)) (ci := 3) (v := .int (v_9 (10 + 3 * ix_2) 4)) (C := RX3) (T := TX3) (N := 10) hx hb hts (fun w h => List.mem_cons_of_mem _ (inWX3 w h)) hown hK hP (10 + 3 * ix_2) (at_S hx_2) rfl 4 (by decide) (hts _ (List.mem_cons_of_mem _ kw_t1_92)) (fun _ h9 => h9) rfl dX5_turn_42 ?_
        refine lv_topi (fun t_10 et_10 => ?_)
        exact W.iret (v := t_10) hx hb hr (fun t ht hW => ⟨⟨t_10, v_9, rfl, hI, kt_heap ht hP⟩, hS.F ht⟩) hS.2.2 dX5_turn_45
      · refine lv_iconst (v := (-1)) hx hb dX5_turn_28 (by decide) ?_
        exact W.iret (v := (-1)) hx hb hr (fun t ht hW => ⟨⟨(-1), v, rfl, hI, kt_heap ht hP⟩, hS.F ht⟩) hS.2.2 dX5_turn_29

set_option maxHeartbeats 4000000 in
set_option maxRecDepth 100000 in
theorem c_X5_stolen (l : Launch) (dC : Nat → ClassId) (dI : Nat → Nat → Nat) (cI cZ cS cC cJ : ClassId) (a : Nat → Nat) (v : Nat → Nat → Int32) (sz : Nat) (p0 : Int32) (hD : mDD a) (hI : kI v v) : Met l yX5_stolen (Cond.code yX5_stolen cX5_stolen 3 (some .int) :: WW) ({ frames := 5, cells := 0, slots := 0, locals := 150 }) (va_Pc [.ref (a 0), .int p0] (fun U => U.heap.size = sz ∧ va_P (dC, dI) vwCl (mW cI cZ cS cC cJ a v) U.heap ∧ va_K (dC, dI) vwCl [(cI, .int), (cZ, .boolean), (cS, .object RX3), (cC, .object RX0), (cJ, .long)] U ∧ mN U)) (va_Qi (fun (r : Int32) (u : Nat → Nat → Int32) => kI v u) (fun (u : Nat → Nat → Int32) (t : State) => va_P (dC, dI) vwCl (mW cI cZ cS cC cJ a u) t.heap) (mA a sz)) 0 0 (mA a sz) := by
  refine Met.ofW (cc := cX5_stolen) (maxL := 3) (ret := (some .int)) (by decide) rfl ?_
  intro p e s m args below meth c s₁ B hml hv
  obtain ⟨rfl, hsz, hP, hK, hN⟩ := hv
  have hx := B.exec
  have hb := B.bytes
  have hr := B.returns
  have hts := atoms_spec (ws := Cond.code yX5_stolen cX5_stolen 3 (some .int) :: WW) B.pre
  have hown : s.vm.findClass RX5 = some m.cls := findClass_of_methodNamed B.named
  have hlocks := B.notSynchronized
  subst hsz
  have hAc : ∀ c, c < 81 → mA a s.heap.size (a c) := fun c h => Or.inl ⟨c, h, rfl⟩
  have hA : ∀ q : Nat, s.heap.size ≤ q → mA a s.heap.size q := fun q h => Or.inr h
  generalize hAe : mA a s.heap.size = A at hAc hA ⊢
  have hS : va_S A s.heap s.heap [] := va_S.rf
  have hl := lv_entry ([.ref (a 0), .int p0]) (n := 3) (Nat.le_of_ble_eq_true rfl)
  rw [lg_entry_eq]
  generalize (lg_sl ([.ref (a 0), .int p0]) ++ List.replicate (3 - (lg_sl ([.ref (a 0), .int p0])).length) Slot.unset).toArray = ls at hl ⊢
  have hl : lv_has ls 3 [(0, .ref (a 0)), (1, .int p0)] := hl
  refine lv_aload_n hx hb dX5_stolen_0 rfl (lv_at hl 0 rfl) ?_
  refine lv_iload_n hx hb dX5_stolen_1 rfl (lv_at hl 1 rfl) ?_
  have hFc := mA_free (a := a) hS hA hAc
  refine va_calli (va_runV (As := [.int p0]) (rest := []) ⟨hx, hb, hml, hown, hts⟩ (c_X5_isSecret l dC dI cI cZ cS cC cJ a v s.heap.size p0 hD hI.self) (cwV 1 hts (gV (fun w h => List.mem_cons_of_mem _ h) kw_t1_203 kw_t1_205 kw_s0_0 kw_t1_1 kw_t1_206) rfl rfl rfl (by decide +kernel) ⟨Nat.le_of_ble_eq_true rfl, Nat.le_of_ble_eq_true rfl⟩) ⟨fun av U g mk q => by obtain ⟨q0, q1, qP, qK, qN⟩ := q; exact ⟨q0, q1, qP, va_K.moved (u := U) (U := U.calling g mk av) (Vm.Alike.refl U.vm) qK, mN_same qN⟩, va_recv hK hP (ci := 5) (q0 := 0) rfl at_0, fun U hU hW => ⟨rfl, by rw [hU], by rw [hU]; exact hP, va_K.moved hW.alike hK, mN_warm hW hN⟩⟩ rfl rfl hl.1 rfl (lv_room (Nat.le_of_ble_eq_true rfl)) dX5_stolen_2 ⟨Nat.le_of_ble_eq_true rfl, Nat.le_of_ble_eq_true rfl⟩) hS (fun q _ h => hFc q h) hFc (fun r_1 _ t H locs ht hvm hw_1 hP _ _ hS => ?_)
  have hP := kt_heap2 ht hP
  clear ht hFc
  have hP : va_P (dC, dI) vwCl (mW cI cZ cS cC cJ a v) H := hP
  rcases hw_1 with ⟨hz_2, hns_2⟩ | ⟨hz_2, his_2, ix_2, hx_2, ex_2⟩
  · subst hz_2
    refine lv_if_eq (tgt := 20) hx hb dX5_stolen_5 (by decide) (fun c_3 => ?_) (fun c_3 => absurd (by decide) c_3)
    refine lv_iconst (v := (-1)) hx hb dX5_stolen_20 (by decide) ?_
    exact W.iret (v := (-1)) hx hb hr (fun t ht hW => ⟨⟨(-1), v, rfl, hI, kt_heap ht hP⟩, hS.F ht⟩) hS.2.2 dX5_stolen_21
  · subst hz_2
    refine lv_if_eq (tgt := 20) hx hb dX5_stolen_5 (by decide) (fun c_4 => absurd c_4 (by decide)) (fun c_4 => ?_)
    refine lv_aload_n hx hb dX5_stolen_8 rfl (lv_at hl 0 rfl) ?_
    refine va_get (D := (dC, dI)) (ci := 5) (v := .ref (a 5)) (C := RX5) (T := TX5) (N := 11) hx hb hts (fun w h => List.mem_cons_of_mem _ (inWX5 w h)) hown hK hP 0 at_0 rfl 3 (by decide) (hts _ (List.mem_cons_of_mem _ kw_t1_160)) (fun _ h9 => h9) rfl dX5_stolen_9 ?_
    refine lv_bipush (v := 16) hx hb dX5_stolen_12 (by decide) ?_
    have hFc := mA_free (a := a) hS hA hAc
    refine va_calli (va_runV (As := [.int 16]) (rest := []) ⟨hx, hb, hml, hown, hts⟩ (c_X2_isDown l dC dI cI cZ cS cC cJ a v H.size 16 hD hI.self) (cwV 1 hts (gV (fun w h => List.mem_cons_of_mem _ h) kw_t1_234 kw_t1_235 kw_t1_236 kw_t1_3 kw_t1_237) rfl rfl rfl (by decide +kernel) ⟨Nat.le_of_ble_eq_true rfl, Nat.le_of_ble_eq_true rfl⟩) ⟨fun av U g mk q => by obtain ⟨q0, q1, qP, qK, qN⟩ := q; exact ⟨q0, q1, qP, va_K.moved (u := U) (U := U.calling g mk av) (Vm.Alike.refl U.vm) qK, mN_same qN⟩, va_recv hK hP (ci := 2) (q0 := 5) rfl at_5, fun U hU hW => ⟨rfl, by rw [hU], by rw [hU]; exact hP, va_K.moved hW.alike hK, mN_warm hW hN⟩⟩ rfl rfl hl.1 rfl (lv_room (Nat.le_of_ble_eq_true rfl)) dX5_stolen_14 ⟨Nat.le_of_ble_eq_true rfl, Nat.le_of_ble_eq_true rfl⟩) hS (fun q _ h => hFc q h) hFc (fun r_5 _ t H locs ht hvm hw_5 hP _ _ hS => ?_)
    have hP := kt_heap2 ht hP
    clear ht hFc
    have hP : va_P (dC, dI) vwCl (mW cI cZ cS cC cJ a v) H := hP
    refine lv_if_eq (tgt := 22) hx hb dX5_stolen_17 (by decide) (fun c_6 => ?_) (fun c_6 => ?_)
    · refine lv_aload_n hx hb dX5_stolen_22 rfl (lv_at hl 0 rfl) ?_
      refine va_get (D := (dC, dI)) (ci := 5) (v := .ref (a 2)) (C := RX5) (T := TX5) (N := 11) hx hb hts (fun w h => List.mem_cons_of_mem _ (inWX5 w h)) hown hK hP 0 at_0 rfl 1 (by decide) (hts _ (List.mem_cons_of_mem _ kw_t1_158)) (fun _ h9 => h9) rfl dX5_stolen_23 ?_
      refine lv_iload_n hx hb dX5_stolen_26 rfl (lv_at hl 1 rfl) ?_
      refine m_aldC hx hb hK hP ex_2 hx_2 dX5_stolen_27 ?_
      refine lv_astore_n (lv' := [(2, .ref (a (9 + 3 * ix_2))), (0, .ref (a 0)), (1, .int p0)]) hx hb dX5_stolen_28 rfl hl (by decide) rfl (fun ls hl => ?_)
      refine lv_aload_n hx hb dX5_stolen_29 rfl (lv_at hl 0 rfl) ?_
      have hFc := mA_free (a := a) hS hA hAc
      refine va_calli (va_runV (As := []) (rest := []) ⟨hx, hb, hml, hown, hts⟩ (c_X0_goesOn l dC dI cI cZ cS cC cJ a v H.size ix_2 hx_2 hD hI.self) (cwV 0 hts (gV (fun w h => List.mem_cons_of_mem _ h) kw_t2_6 kw_t2_7 kw_t2_8 kw_t1_5 kw_t2_9) rfl rfl rfl (by decide +kernel) ⟨Nat.le_of_ble_eq_true rfl, Nat.le_of_ble_eq_true rfl⟩) ⟨fun av U g mk q => by obtain ⟨q0, q1, qP, qK, qN⟩ := q; exact ⟨q0, q1, qP, va_K.moved (u := U) (U := U.calling g mk av) (Vm.Alike.refl U.vm) qK, mN_same qN⟩, va_recv hK hP (ci := 0) (q0 := (9 + 3 * ix_2)) rfl (at_C hx_2), fun U hU hW => ⟨rfl, by rw [hU], by rw [hU]; exact hP, va_K.moved hW.alike hK, mN_warm hW hN⟩⟩ rfl rfl hl.1 rfl (lv_room (Nat.le_of_ble_eq_true rfl)) dX5_stolen_30 ⟨Nat.le_of_ble_eq_true rfl, Nat.le_of_ble_eq_true rfl⟩) hS (fun q _ h => hFc q h) hFc (fun r_7 _ t H locs ht hvm hw_7 hP _ _ hS => ?_)
      have hP := kt_heap2 ht hP
      clear ht hFc
      have hP : va_P (dC, dI) vwCl (mW cI cZ cS cC cJ a v) H := hP
      refine lv_if_eq (tgt := 62) hx hb dX5_stolen_33 (by decide) (fun c_8 => ?_) (fun c_8 => ?_)
      · refine lv_aload_n hx hb dX5_stolen_62 rfl (lv_at hl 1 rfl) ?_
        refine lv_iload_n hx hb dX5_stolen_63 rfl (lv_at hl 2 rfl) ?_
        refine lv_iconst (v := 1) hx hb dX5_stolen_64 (by decide) ?_
        have hFc := mA_free (a := a) hS hA hAc
        refine va_callv (va_runV (As := [.int p0, .int 1]) (rest := []) ⟨hx, hb, hml, hown, hts⟩ (c_X5_beginTurn l dC dI cI cZ cS cC cJ a v H.size p0 1 hD hI.self (⟨ix_2, hx_2, ex_2⟩)) (cwV 2 hts (gV (fun w h => List.mem_cons_of_mem _ h) kw_t2_10 kw_t2_12 kw_s0_2 kw_t1_1 kw_t2_13) rfl rfl rfl (by decide +kernel) ⟨Nat.le_of_ble_eq_true rfl, Nat.le_of_ble_eq_true rfl⟩) ⟨fun av U g mk q => by obtain ⟨q0, q1, qP, qK, qN⟩ := q; exact ⟨q0, q1, qP, va_K.moved (u := U) (U := U.calling g mk av) (Vm.Alike.refl U.vm) qK, mN_same qN⟩, va_recv hK hP (ci := 5) (q0 := 0) rfl at_0, fun U hU hW => ⟨rfl, by rw [hU], by rw [hU]; exact hP, va_K.moved hW.alike hK, mN_warm hW hN⟩⟩ rfl rfl hl.1 rfl (lv_room (Nat.le_of_ble_eq_true rfl)) dX5_stolen_65 ⟨Nat.le_of_ble_eq_true rfl, Nat.le_of_ble_eq_true rfl⟩) hS (fun q _ h => hFc q h) hFc (fun v_9 t H locs ht hvm hw_9 hP _ _ hS => ?_)
        have hP := kt_heap2 ht hP
        clear ht hFc
        have hP : va_P (dC, dI) vwCl (mW cI cZ cS cC cJ a v_9) H := hP
        have hI := hI.trans hw_9
        refine lv_aload_n hx hb dX5_stolen_68 rfl (lv_at hl 1 rfl) ?_
        refine va_get (D := (dC, dI)) (ci := 5) (v := .ref (a 1)) (C := RX5) (T := TX5) (N := 11) hx hb hts (fun w h => List.mem_cons_of_mem _ (inWX5 w h)) hown hK hP 0 at_0 rfl 0 (by decide) (hts _ (List.mem_cons_of_mem _ kw_t1_157)) (fun _ h9 => h9) rfl dX5_stolen_69 ?_
        refine lv_iload_n hx hb dX5_stolen_72 rfl (lv_at hl 2 rfl) ?_
        refine m_aldS hx hb hK hP ex_2 hx_2 dX5_stolen_73 ?_
        refine va_get (D := (dC, dI)) (ci := 3) (v := .int (v_9 (10 + 3 * ix_2) 4)) (C := RX3) (T := TX3) (N := 10) hx hb hts (fun w h => List.mem_cons_of_mem _ (inWX3 w h)) hown hK hP (10 + 3 * ix_2) (at_S hx_2) rfl 4 (by decide) (hts _ (List.mem_cons_of_mem _ kw_t1_92)) (fun _ h9 => h9) rfl dX5_stolen_74 ?_
        refine lv_topi (fun t_10 et_10 => ?_)
        exact W.iret (v := t_10) hx hb hr (fun t ht hW => ⟨⟨t_10, v_9, rfl, hI, kt_heap ht hP⟩, hS.F ht⟩) hS.2.2 dX5_stolen_77
      · refine lv_aload_n hx hb dX5_stolen_36 rfl (lv_at hl 0 rfl) ?_
        refine lv_aload_n hx hb dX5_stolen_37 rfl (lv_at hl 1 rfl) ?_
        refine va_get (D := (dC, dI)) (ci := 5) (v := .int (v 0 6)) (C := RX5) (T := TX5) (N := 11) hx hb hts (fun w h => List.mem_cons_of_mem _ (inWX5 w h)) hown hK hP 0 at_0 rfl 6 (by decide) (hts _ (List.mem_cons_of_mem _ kw_t1_163)) (fun _ h9 => h9) rfl dX5_stolen_38 ?_
        refine lv_topi (fun t_11 et_11 => ?_)
        refine lv_aload_n hx hb dX5_stolen_41 rfl (lv_at hl 1 rfl) ?_
        refine va_get (D := (dC, dI)) (ci := 5) (v := .ref (a 5)) (C := RX5) (T := TX5) (N := 11) hx hb hts (fun w h => List.mem_cons_of_mem _ (inWX5 w h)) hown hK hP 0 at_0 rfl 3 (by decide) (hts _ (List.mem_cons_of_mem _ kw_t1_160)) (fun _ h9 => h9) rfl dX5_stolen_42 ?_
        have hFc := mA_free (a := a) hS hA hAc
        refine va_callv (va_runV (As := [.int t_11, .ref (a 5)]) (rest := []) ⟨hx, hb, hml, hown, hts⟩ (c_X0_hurry l dC dI cI cZ cS cC cJ a v H.size ix_2 hx_2 t_11 hD hI.self) (cwV 2 hts (gV (fun w h => List.mem_cons_of_mem _ h) kw_t2_46 kw_t2_47 kw_t2_48 kw_t1_5 kw_t2_49) rfl rfl rfl (by decide +kernel) ⟨Nat.le_of_ble_eq_true rfl, Nat.le_of_ble_eq_true rfl⟩) ⟨fun av U g mk q => by obtain ⟨q0, q1, qP, qK, qN⟩ := q; exact ⟨q0, q1, qP, va_K.moved (u := U) (U := U.calling g mk av) (Vm.Alike.refl U.vm) qK, mN_same qN⟩, va_recv hK hP (ci := 0) (q0 := (9 + 3 * ix_2)) rfl (at_C hx_2), fun U hU hW => ⟨rfl, by rw [hU], by rw [hU]; exact hP, va_K.moved hW.alike hK, mN_warm hW hN⟩⟩ rfl rfl hl.1 rfl (lv_room (Nat.le_of_ble_eq_true rfl)) dX5_stolen_45 ⟨Nat.le_of_ble_eq_true rfl, Nat.le_of_ble_eq_true rfl⟩) hS (fun q _ h => hFc q h) hFc (fun v_12 t H locs ht hvm hw_12 hP _ _ hS => ?_)
        have hP := kt_heap2 ht hP
        clear ht hFc
        have hP : va_P (dC, dI) vwCl (mW cI cZ cS cC cJ a v_12) H := hP
        have hI := hI.trans hw_12
        refine lv_aload_n hx hb dX5_stolen_48 rfl (lv_at hl 1 rfl) ?_
        refine va_get (D := (dC, dI)) (ci := 5) (v := .ref (a 7)) (C := RX5) (T := TX5) (N := 11) hx hb hts (fun w h => List.mem_cons_of_mem _ (inWX5 w h)) hown hK hP 0 at_0 rfl 4 (by decide) (hts _ (List.mem_cons_of_mem _ kw_t1_161)) (fun _ h9 => h9) rfl dX5_stolen_49 ?_
        refine lv_aload_n hx hb dX5_stolen_52 rfl (lv_at hl 0 rfl) ?_
        refine va_get (D := (dC, dI)) (ci := 0) (v := .int (v_12 (9 + 3 * ix_2) 3)) (C := RX0) (T := TX0) (N := 9) hx hb hts (fun w h => List.mem_cons_of_mem _ (inWX0 w h)) hown hK hP (9 + 3 * ix_2) (at_C hx_2) rfl 3 (by decide) (hts _ (List.mem_cons_of_mem _ kw_t1_129)) (fun _ h9 => h9) rfl dX5_stolen_53 ?_
        refine lv_topi (fun t_13 et_13 => ?_)
        have hFc := mA_free (a := a) hS hA hAc
        refine va_callv (va_runV (As := [.int t_13]) (rest := []) ⟨hx, hb, hml, hown, hts⟩ (c_X1_markStolen l dC dI cI cZ cS cC cJ a v_12 H.size t_13 hD hI.self) (cwV 1 hts (gV (fun w h => List.mem_cons_of_mem _ h) kw_t2_50 kw_t2_51 kw_t2_52 kw_t1_4 kw_t2_53) rfl rfl rfl (by decide +kernel) ⟨Nat.le_of_ble_eq_true rfl, Nat.le_of_ble_eq_true rfl⟩) ⟨fun av U g mk q => by obtain ⟨q0, q1, qP, qK, qN⟩ := q; exact ⟨q0, q1, qP, va_K.moved (u := U) (U := U.calling g mk av) (Vm.Alike.refl U.vm) qK, mN_same qN⟩, va_recv hK hP (ci := 1) (q0 := 7) rfl at_7, fun U hU hW => ⟨rfl, by rw [hU], by rw [hU]; exact hP, va_K.moved hW.alike hK, mN_warm hW hN⟩⟩ rfl rfl hl.1 rfl (lv_room (Nat.le_of_ble_eq_true rfl)) dX5_stolen_56 ⟨Nat.le_of_ble_eq_true rfl, Nat.le_of_ble_eq_true rfl⟩) hS (fun q _ h => hFc q h) hFc (fun v_14 t H locs ht hvm hw_14 hP _ _ hS => ?_)
        have hP := kt_heap2 ht hP
        clear ht hFc
        have hP : va_P (dC, dI) vwCl (mW cI cZ cS cC cJ a v_14) H := hP
        have hI := hI.trans hw_14
        refine lv_goto (tgt := 68) hx hb dX5_stolen_59 (by decide) ?_
        refine lv_aload_n hx hb dX5_stolen_68 rfl (lv_at hl 1 rfl) ?_
        refine va_get (D := (dC, dI)) (ci := 5) (v := .ref (a 1)) (C := RX5) (T := TX5) (N := 11) hx hb hts (fun w h => List.mem_cons_of_mem _ (inWX5 w h)) hown hK hP 0 at_0 rfl 0 (by decide) (hts _ (List.mem_cons_of_mem _ kw_t1_157)) (fun _ h9 => h9) rfl dX5_stolen_69 ?_
        refine lv_iload_n hx hb dX5_stolen_72 rfl (lv_at hl 2 rfl) ?_
        refine m_aldS hx hb hK hP ex_2 hx_2 dX5_stolen_73 ?_
        refine va_get (D := (dC, dI)) (ci := 3) (v := .int (v_14 (10 + 3 * ix_2) 4)) (C := RX3) (T := TX3) (N := 10) hx hb hts (fun w h => List.mem_cons_of_mem _ (inWX3 w h)) hown hK hP (10 + 3 * ix_2) (at_S hx_2) rfl 4 (by decide) (hts _ (List.mem_cons_of_mem _ kw_t1_92)) (fun _ h9 => h9) rfl dX5_stolen_74 ?_
        refine lv_topi (fun t_15 et_15 => ?_)
        exact W.iret (v := t_15) hx hb hr (fun t ht hW => ⟨⟨t_15, v_14, rfl, hI, kt_heap ht hP⟩, hS.F ht⟩) hS.2.2 dX5_stolen_77
    · refine lv_iconst (v := (-1)) hx hb dX5_stolen_20 (by decide) ?_
      exact W.iret (v := (-1)) hx hb hr (fun t ht hW => ⟨⟨(-1), v, rfl, hI, kt_heap ht hP⟩, hS.F ht⟩) hS.2.2 dX5_stolen_21
