set_option maxHeartbeats 4000000 in
set_option maxRecDepth 100000 in
theorem c_X6_plan (l : Launch) (dC : Nat → ClassId) (dI : Nat → Nat → Nat) (cI cZ cS cC cJ : ClassId) (a : Nat → Nat) (v : Nat → Nat → Int32) (sz : Nat) (p0 : Int32) (hD : mDD a) (gn : Nat) (hn : gn < 200000) (hB : rB gn v v) (hL : rL v) : Met l yX6_plan (Cond.code yX6_plan cX6_plan 7 (some .int) :: WW) ({ frames := 0, cells := 0, slots := 0, locals := 0 }) (va_Pc [.ref (a 45), .int p0] (fun U => U.heap.size = sz ∧ va_P (dC, dI) vwCl (mW cI cZ cS cC cJ a v) U.heap ∧ va_K (dC, dI) vwCl [(cI, .int), (cZ, .boolean), (cS, .object RX3), (cC, .object RX0), (cJ, .long)] U ∧ mN U)) (va_Qi (fun (r : Int32) (u : Nat → Nat → Int32) => (rB gn v u) ∧ (rL u)) (fun (u : Nat → Nat → Int32) (t : State) => va_P (dC, dI) vwCl (mW cI cZ cS cC cJ a u) t.heap) (mA a sz)) 0 0 (mA a sz) := by
  refine Met.ofW (cc := cX6_plan) (maxL := 7) (ret := (some .int)) (by decide) rfl ?_
  intro p e s m args below meth c s₁ B hml hv
  obtain ⟨rfl, hsz, hP, hK, hN⟩ := hv
  have hx := B.exec
  have hb := B.bytes
  have hr := B.returns
  have hts := atoms_spec (ws := Cond.code yX6_plan cX6_plan 7 (some .int) :: WW) B.pre
  have hown : s.vm.findClass RX6 = some m.cls := findClass_of_methodNamed B.named
  have hlocks := B.notSynchronized
  subst hsz
  have hAc : ∀ c, c < 81 → mA a s.heap.size (a c) := fun c h => Or.inl ⟨c, h, rfl⟩
  have hA : ∀ q : Nat, s.heap.size ≤ q → mA a s.heap.size q := fun q h => Or.inr h
  generalize hAe : mA a s.heap.size = A at hAc hA ⊢
  have hS : va_S A s.heap s.heap [] := va_S.rf
  have hl := lv_entry ([.ref (a 45), .int p0]) (n := 7) (Nat.le_of_ble_eq_true rfl)
  rw [lg_entry_eq]
  generalize (lg_sl ([.ref (a 45), .int p0]) ++ List.replicate (7 - (lg_sl ([.ref (a 45), .int p0])).length) Slot.unset).toArray = ls at hl ⊢
  have hl : lv_has ls 7 [(0, .ref (a 45)), (1, .int p0)] := hl
  refine kt_absQ (fun Q hQ9 => ?_)
  refine lv_aload_n hx hb dX6_plan_0 rfl (lv_at hl 0 rfl) ?_
  refine lv_iconst (v := 0) hx hb dX6_plan_1 (by decide) ?_
  refine va_put (D := (dC, dI)) (ci := 6) (v := .int 0) (ty := .int) (C := RX6) (T := TX6) (N := 43) hx hb hts (fun w h => List.mem_cons_of_mem _ (inWX6 w h)) tyX6 tyX6_ok nmX6 hown hK hP (mD_of hD hAc) hS 45 at_45 rfl 0 (by decide) (hts _ (List.mem_cons_of_mem _ kw_t3_41)) (fun _ h9 => h9) rfl (by decide +kernel) rfl rfl (Nat.le_of_ble_eq_true rfl) dX6_plan_2 (fun H locs hP _ hS => ?_)
  obtain ⟨v_1, ev_1⟩ : ∃ z, z = mU v 45 (upd (v 45) 0 0) := ⟨_, rfl⟩
  have hP : va_P (dC, dI) vwCl (mW cI cZ cS cC cJ a v_1) H := by rw [ev_1]; exact mW_put hP (by omega) rfl
  have hB := hB.putO ev_1 (by decide)
  have hL := hL.putM ev_1 (by decide)
  refine lv_iconst (v := 0) hx hb dX6_plan_5 (by decide) ?_
  refine lv_istore_n (lv' := [(2, .int 0), (0, .ref (a 45)), (1, .int p0)]) hx hb dX6_plan_6 rfl hl (by decide) rfl (fun ls hl => ?_)
  have key1 : ∀ (n i1 : Nat) (k1 : Int32) (w1 : Nat → Nat → Int32) (H : Heap) (locs : List Loc) (ls : Array Slot), i1 ≤ 12 → 12 - i1 < n → k1 = nI i1 → va_P (dC, dI) vwCl (mW cI cZ cS cC cJ a w1) H → va_S A s.heap H locs → lv_has ls 7 [(2, .int k1), (0, .ref (a 45)), (1, .int p0)] → rB gn v w1 → rL w1 → ((∀ c, c ≠ 79 → w1 c = v_1 c) ∧ ∀ x, x < i1 → w1 79 x = 0) → W p l e (headSpec (Cond.code yX6_plan cX6_plan 7 (some .int) :: WW) ({ frames := 0, cells := 0, slots := 0, locals := 0 })).room s m ([.ref (a 45), .int p0] : List Value).toArray below meth c H locs 0 0 Q (F0 m 7 ls []) := by
    intro n
    induction n with
    | zero => intro i k w1 H locs ls h1 h2; exact absurd h2 (by omega)
    | succ n ih1 =>
      intro i1 k1 w1 H locs ls hi1 hin1 ek1 hP hS hl hB hL hJ1
      refine lv_iload_n hx hb dX6_plan_7 rfl (lv_at hl 0 rfl) ?_
      refine lv_bipush (v := 12) hx hb dX6_plan_8 (by decide) ?_
      refine lv_icmp_ge (tgt := 26) hx hb dX6_plan_10 (by decide) (fun c_2 => ?_) (fun c_2 => ?_)
      · have hxA : 12 ≤ i1 := by have z := c_2; rw [Int32.le_iff_toInt_le, ek1, nI_toInt (by omega), L12] at z; omega
        refine lv_iconst (v := 0) hx hb dX6_plan_26 (by decide) ?_
        refine lv_istore_n (lv' := [(2, .int 0), (0, .ref (a 45)), (1, .int p0)]) hx hb dX6_plan_27 rfl hl (by decide) rfl (fun ls hl => ?_)
        have key2 : ∀ (n i2 : Nat) (k2 : Int32) (w2 : Nat → Nat → Int32) (H : Heap) (locs : List Loc) (ls : Array Slot), i2 ≤ 12 → 12 - i2 < n → k2 = nI i2 → va_P (dC, dI) vwCl (mW cI cZ cS cC cJ a w2) H → va_S A s.heap H locs → lv_has ls 7 [(2, .int k2), (0, .ref (a 45)), (1, .int p0)] → rB gn v w2 → rL w2 → (cnR (w2 79) 12 ≤ i2) → W p l e (headSpec (Cond.code yX6_plan cX6_plan 7 (some .int) :: WW) ({ frames := 0, cells := 0, slots := 0, locals := 0 })).room s m ([.ref (a 45), .int p0] : List Value).toArray below meth c H locs 0 0 Q (F0 m 28 ls []) := by
          intro n
          induction n with
          | zero => intro i k w2 H locs ls h1 h2; exact absurd h2 (by omega)
          | succ n ih2 =>
            intro i2 k2 w2 H locs ls hi2 hin2 ek2 hP hS hl hB hL hJ2
            refine lv_iload_n hx hb dX6_plan_28 rfl (lv_at hl 0 rfl) ?_
            refine lv_aload_n hx hb dX6_plan_29 rfl (lv_at hl 1 rfl) ?_
            refine va_get (D := (dC, dI)) (ci := 6) (v := .int (w2 45 2)) (C := RX6) (T := TX6) (N := 43) hx hb hts (fun w h => List.mem_cons_of_mem _ (inWX6 w h)) hown hK hP 45 at_45 rfl 2 (by decide) (hts _ (List.mem_cons_of_mem _ kw_t3_43)) (fun _ h9 => h9) rfl dX6_plan_30 ?_
            refine lv_topi (fun t_3 et_3 => ?_)
            have hsc_3 : 0 ≤ t_3.toInt ∧ t_3.toInt ≤ 12 := by rw [et_3]; exact hB.sc
            refine lv_icmp_ge (tgt := 193) hx hb dX6_plan_33 (by decide) (fun c_4 => ?_) (fun c_4 => ?_)
            · refine lv_iconst (v := (-1)) hx hb dX6_plan_193 (by decide) ?_
              rw [hQ9]
              exact W.iret (v := (-1)) hx hb hr (fun t ht hW => ⟨⟨(-1), w2, rfl, ⟨hB, hL⟩, kt_heap ht hP⟩, hS.F ht⟩) hS.2.2 dX6_plan_194
            · refine lv_iconst (v := (-1)) hx hb dX6_plan_36 (by decide) ?_
              refine lv_istore_n (lv' := [(3, .int (-1)), (2, .int k2), (0, .ref (a 45)), (1, .int p0)]) hx hb dX6_plan_37 rfl hl (by decide) rfl (fun ls hl => ?_)
              refine lv_iconst (v := 0) hx hb dX6_plan_38 (by decide) ?_
              refine lv_istore (lv' := [(4, .int 0), (3, .int (-1)), (2, .int k2), (0, .ref (a 45)), (1, .int p0)]) hx hb dX6_plan_39 hl (by decide) rfl (fun ls hl => ?_)
              have hi_5 : i2 < 12 := kt_lt12 hsc_3 ek2 hi2 c_4
              have key3 : ∀ (n i3 : Nat) (k3 : Int32) (y3_3 : Int32) (H : Heap) (locs : List Loc) (ls : Array Slot), i3 ≤ 12 → 12 - i3 < n → k3 = nI i3 → va_P (dC, dI) vwCl (mW cI cZ cS cC cJ a w2) H → va_S A s.heap H locs → lv_has ls 7 [(4, .int k3), (3, .int y3_3), (2, .int k2), (0, .ref (a 45)), (1, .int p0)] → ((y3_3 = -1 ∨ ∃ j, j < 12 ∧ y3_3 = nI j) ∧ (y3_3 = -1 → ∀ x : Nat, x < i3 → ¬ (w2 79 x = 0 ∧ ∀ y : Nat, (y : Int) < (w2 45 2).toInt → w2 59 (12 * x + y) ≠ 0 → w2 79 y ≠ 0))) → W p l e (headSpec (Cond.code yX6_plan cX6_plan 7 (some .int) :: WW) ({ frames := 0, cells := 0, slots := 0, locals := 0 })).room s m ([.ref (a 45), .int p0] : List Value).toArray below meth c H locs 0 0 Q (F0 m 41 ls []) := by
                intro n
                induction n with
                | zero => intro i k y3_3 H locs ls h1 h2; exact absurd h2 (by omega)
                | succ n ih3 =>
                  intro i3 k3 y3_3 H locs ls hi3 hin3 ek3 hP hS hl hJ3
                  refine lv_iload hx hb dX6_plan_41 (lv_at hl 0 rfl) ?_
                  refine lv_aload_n hx hb dX6_plan_43 rfl (lv_at hl 3 rfl) ?_
                  refine va_get (D := (dC, dI)) (ci := 6) (v := .int (w2 45 2)) (C := RX6) (T := TX6) (N := 43) hx hb hts (fun w h => List.mem_cons_of_mem _ (inWX6 w h)) hown hK hP 45 at_45 rfl 2 (by decide) (hts _ (List.mem_cons_of_mem _ kw_t3_43)) (fun _ h9 => h9) rfl dX6_plan_44 ?_
                  refine lv_topi (fun t_6 et_6 => ?_)
                  obtain rfl : t_3 = t_6 := et_3.trans et_6.symm
                  refine lv_icmp_ge (tgt := 173) hx hb dX6_plan_47 (by decide) (fun c_7 => ?_) (fun c_7 => ?_)
                  · refine lv_iload_n hx hb dX6_plan_173 rfl (lv_at hl 2 rfl) ?_
                    refine lv_iload_n hx hb dX6_plan_174 rfl (lv_at hl 4 rfl) ?_
                    refine lv_icmp_ne (tgt := 180) hx hb dX6_plan_175 (by decide) (fun c_8 => ?_) (fun c_8 => ?_)
                    · obtain ⟨jb, hjb, ejb⟩ : ∃ j, j < 12 ∧ y3_3 = nI j := hJ3.1.resolve_left (fun z => by
                        have hk9 : (i2 : Int) < (w2 45 2).toInt := by have z9 := c_4; rw [Int32.le_iff_toInt_le, ek2, nI_toInt (by omega), et_3] at z9; omega
                        have hx9 : (w2 45 2).toInt ≤ i3 := by have z9 := c_7; rw [Int32.le_iff_toInt_le, ek3, nI_toInt (by omega), et_3] at z9; exact z9
                        obtain ⟨x, h1, h2, h3⟩ := plan_ex hB.nd hB.sc.2 hJ2 hk9
                        exact hJ3.2 z x (by omega) ⟨h2, h3⟩)
                      refine lv_aload_n hx hb dX6_plan_180 rfl (lv_at hl 3 rfl) ?_
                      refine va_get (D := (dC, dI)) (ci := 6) (v := .ref (a 79)) (C := RX6) (T := TX6) (N := 43) hx hb hts (fun w h => List.mem_cons_of_mem _ (inWX6 w h)) hown hK hP 45 at_45 rfl 42 (by decide) (hts _ (List.mem_cons_of_mem _ kw_t3_83)) (fun _ h9 => h9) rfl dX6_plan_181 ?_
                      refine lv_iload_n hx hb dX6_plan_184 rfl (lv_at hl 1 rfl) ?_
                      refine lv_iconst (v := 1) hx hb dX6_plan_185 (by decide) ?_
                      refine va_zast hx hb hK hP (mD_of hD hAc) hS 79 1 at_79 rfl (kt_inN ejb (by omega) (by decide)) dX6_plan_186 (fun H locs hP _ hS => ?_)
                      obtain ⟨v_9, ev_9⟩ : ∃ z, z = mU w2 79 (upd (w2 79) jb (vp_nar .boolean 1)) := ⟨_, rfl⟩
                      have hP : va_P (dC, dI) vwCl (mW cI cZ cS cC cJ a v_9) H := by rw [ev_9]; exact mW_put hP (by omega) (by rw [ejb, nI_clamp (by omega)]; rfl)
                      have hB := hB.put ev_9 (by decide)
                      have hL := hL.put ev_9 (by decide)
                      obtain ⟨t_10, et_10⟩ : ∃ y : Int32, y = k2 + 1 := ⟨_, rfl⟩
                      refine lv_iinc (v := t_10) (lv' := [(2, .int t_10), (4, .int k3), (3, .int y3_3), (0, .ref (a 45)), (1, .int p0)]) hx hb dX6_plan_187 hl (k := 2) rfl (by rw [et_10]; rfl) (by decide) rfl (fun ls hl => ?_)
                      refine lv_goto (tgt := 28) hx hb dX6_plan_190 (by decide) ?_
                      exact ih2 (i2 + 1) t_10 v_9 _ _ _ (by omega) (by omega) (by rw [et_10, ek2]; exact nI_1 i2) hP hS (lv_sub hl [0, 3, 4] rfl) hB hL (by rw [ev_9, mU_self]; exact Nat.le_trans (cnR_set 12) (by omega))
                    · refine lv_iload_n hx hb dX6_plan_178 rfl (lv_at hl 1 rfl) ?_
                      rw [hQ9]
                      exact W.iret (v := y3_3) hx hb hr (fun t ht hW => ⟨⟨y3_3, w2, rfl, ⟨hB, hL⟩, kt_heap ht hP⟩, hS.F ht⟩) hS.2.2 dX6_plan_179
                  · refine lv_aload_n hx hb dX6_plan_50 rfl (lv_at hl 3 rfl) ?_
                    refine va_get (D := (dC, dI)) (ci := 6) (v := .ref (a 79)) (C := RX6) (T := TX6) (N := 43) hx hb hts (fun w h => List.mem_cons_of_mem _ (inWX6 w h)) hown hK hP 45 at_45 rfl 42 (by decide) (hts _ (List.mem_cons_of_mem _ kw_t3_83)) (fun _ h9 => h9) rfl dX6_plan_51 ?_
                    refine lv_iload hx hb dX6_plan_54 (lv_at hl 0 rfl) ?_
                    have hi_11 : i3 < 12 := kt_lt12 hsc_3 ek3 hi3 c_7
                    refine va_zald hx hb hK hP 79 1 at_79 rfl (kt_inN ek3 (by omega) (by decide)) dX6_plan_56 ?_
                    refine lv_topi (fun t_12 et_12 => ?_)
                    rw [ek3, nI_clamp (by omega)] at et_12
                    refine lv_if_ne (tgt := 64) hx hb dX6_plan_57 (by decide) (fun c_13 => ?_) (fun c_13 => ?_)
                    · refine lv_iconst (v := 0) hx hb dX6_plan_64 (by decide) ?_
                      refine lv_istore (lv' := [(5, .int 0), (4, .int k3), (3, .int y3_3), (2, .int k2), (0, .ref (a 45)), (1, .int p0)]) hx hb dX6_plan_65 hl (by decide) rfl (fun ls hl => ?_)
                      refine lv_iconst (v := 0) hx hb dX6_plan_67 (by decide) ?_
                      refine lv_istore (lv' := [(6, .int 0), (5, .int 0), (4, .int k3), (3, .int y3_3), (2, .int k2), (0, .ref (a 45)), (1, .int p0)]) hx hb dX6_plan_68 hl (by decide) rfl (fun ls hl => ?_)
                      have key4 : ∀ (n i4 : Nat) (k4 : Int32) (y4_5 : Int32) (H : Heap) (locs : List Loc) (ls : Array Slot), i4 ≤ 12 → 12 - i4 < n → k4 = nI i4 → va_P (dC, dI) vwCl (mW cI cZ cS cC cJ a w2) H → va_S A s.heap H locs → lv_has ls 7 [(6, .int k4), (5, .int y4_5), (4, .int k3), (3, .int y3_3), (2, .int k2), (0, .ref (a 45)), (1, .int p0)] → (y4_5 = 0 → ¬ (w2 79 i3 = 0 ∧ ∀ y : Nat, (y : Int) < (w2 45 2).toInt → w2 59 (12 * i3 + y) ≠ 0 → w2 79 y ≠ 0)) → W p l e (headSpec (Cond.code yX6_plan cX6_plan 7 (some .int) :: WW) ({ frames := 0, cells := 0, slots := 0, locals := 0 })).room s m ([.ref (a 45), .int p0] : List Value).toArray below meth c H locs 0 0 Q (F0 m 70 ls []) := by
                        intro n
                        induction n with
                        | zero => intro i k y4_5 H locs ls h1 h2; exact absurd h2 (by omega)
                        | succ n ih4 =>
                          intro i4 k4 y4_5 H locs ls hi4 hin4 ek4 hP hS hl hJ4
                          refine lv_iload hx hb dX6_plan_70 (lv_at hl 0 rfl) ?_
                          refine lv_aload_n hx hb dX6_plan_72 rfl (lv_at hl 5 rfl) ?_
                          refine va_get (D := (dC, dI)) (ci := 6) (v := .int (w2 45 2)) (C := RX6) (T := TX6) (N := 43) hx hb hts (fun w h => List.mem_cons_of_mem _ (inWX6 w h)) hown hK hP 45 at_45 rfl 2 (by decide) (hts _ (List.mem_cons_of_mem _ kw_t3_43)) (fun _ h9 => h9) rfl dX6_plan_73 ?_
                          refine lv_topi (fun t_14 et_14 => ?_)
                          obtain rfl : t_3 = t_14 := et_3.trans et_14.symm
                          refine lv_icmp_ge (tgt := 123) hx hb dX6_plan_76 (by decide) (fun c_15 => ?_) (fun c_15 => ?_)
                          · refine lv_iload hx hb dX6_plan_123 (lv_at hl 1 rfl) ?_
                            refine lv_if_eq (tgt := 167) hx hb dX6_plan_125 (by decide) (fun c_16 => ?_) (fun c_16 => ?_)
                            · obtain ⟨t_17, et_17⟩ : ∃ y : Int32, y = k3 + 1 := ⟨_, rfl⟩
                              refine lv_iinc (v := t_17) (lv' := [(4, .int t_17), (6, .int k4), (5, .int y4_5), (3, .int y3_3), (2, .int k2), (0, .ref (a 45)), (1, .int p0)]) hx hb dX6_plan_167 hl (k := 2) rfl (by rw [et_17]; rfl) (by decide) rfl (fun ls hl => ?_)
                              refine lv_goto (tgt := 41) hx hb dX6_plan_170 (by decide) ?_
                              exact ih3 (i3 + 1) t_17 y3_3 _ _ _ (by omega) (by omega) (by rw [et_17, ek3]; exact nI_1 i3) hP hS (lv_sub hl [0, 3, 4, 5, 6] rfl) ⟨hJ3.1, fun z x hx => by by_cases h9 : x = i3; (obtain rfl : i3 = x := h9.symm; exact hJ4 c_16); exact hJ3.2 z x (by omega)⟩
                            · refine lv_iload_n hx hb dX6_plan_128 rfl (lv_at hl 3 rfl) ?_
                              refine lv_iconst (v := (-1)) hx hb dX6_plan_129 (by decide) ?_
                              refine lv_icmp_eq (tgt := 164) hx hb dX6_plan_130 (by decide) (fun c_18 => ?_) (fun c_18 => ?_)
                              · refine lv_iload hx hb dX6_plan_164 (lv_at hl 2 rfl) ?_
                                refine lv_istore_n (lv' := [(3, .int k3), (6, .int k4), (5, .int y4_5), (4, .int k3), (2, .int k2), (0, .ref (a 45)), (1, .int p0)]) hx hb dX6_plan_166 rfl hl (by decide) rfl (fun ls hl => ?_)
                                obtain ⟨t_19, et_19⟩ : ∃ y : Int32, y = k3 + 1 := ⟨_, rfl⟩
                                refine lv_iinc (v := t_19) (lv' := [(4, .int t_19), (3, .int k3), (6, .int k4), (5, .int y4_5), (2, .int k2), (0, .ref (a 45)), (1, .int p0)]) hx hb dX6_plan_167 hl (k := 3) rfl (by rw [et_19]; rfl) (by decide) rfl (fun ls hl => ?_)
                                refine lv_goto (tgt := 41) hx hb dX6_plan_170 (by decide) ?_
                                exact ih3 (i3 + 1) t_19 k3 _ _ _ (by omega) (by omega) (by rw [et_19, ek3]; exact nI_1 i3) hP hS (lv_sub hl [0, 1, 4, 5, 6] rfl) ⟨Or.inr ⟨i3, by omega, ek3⟩, fun z => absurd z (by rw [ek3]; exact kt_nm1 (by omega))⟩
                              · refine lv_aload_n hx hb dX6_plan_133 rfl (lv_at hl 5 rfl) ?_
                                refine va_get (D := (dC, dI)) (ci := 6) (v := .ref (a 51)) (C := RX6) (T := TX6) (N := 43) hx hb hts (fun w h => List.mem_cons_of_mem _ (inWX6 w h)) hown hK hP 45 at_45 rfl 14 (by decide) (hts _ (List.mem_cons_of_mem _ kw_t3_55)) (fun _ h9 => h9) rfl dX6_plan_134 ?_
                                refine lv_iload hx hb dX6_plan_137 (lv_at hl 2 rfl) ?_
                                refine va_iald hx hb hK hP 51 0 at_51 rfl (kt_inN ek3 (by omega) (by decide)) dX6_plan_139 ?_
                                refine lv_topi (fun t_20 et_20 => ?_)
                                rw [ek3, nI_clamp (by omega)] at et_20
                                refine lv_aload_n hx hb dX6_plan_140 rfl (lv_at hl 5 rfl) ?_
                                refine va_get (D := (dC, dI)) (ci := 6) (v := .ref (a 49)) (C := RX6) (T := TX6) (N := 43) hx hb hts (fun w h => List.mem_cons_of_mem _ (inWX6 w h)) hown hK hP 45 at_45 rfl 12 (by decide) (hts _ (List.mem_cons_of_mem _ kw_t3_53)) (fun _ h9 => h9) rfl dX6_plan_141 ?_
                                refine lv_iload hx hb dX6_plan_144 (lv_at hl 2 rfl) ?_
                                refine va_iald hx hb hK hP 49 0 at_49 rfl (kt_inN ek3 (by omega) (by decide)) dX6_plan_146 ?_
                                refine lv_topi (fun t_21 et_21 => ?_)
                                rw [ek3, nI_clamp (by omega)] at et_21
                                refine lv_iadd hx hb dX6_plan_147 ?_
                                refine lv_topi (fun t_22 et_22 => ?_)
                                refine lv_aload_n hx hb dX6_plan_148 rfl (lv_at hl 5 rfl) ?_
                                refine va_get (D := (dC, dI)) (ci := 6) (v := .ref (a 51)) (C := RX6) (T := TX6) (N := 43) hx hb hts (fun w h => List.mem_cons_of_mem _ (inWX6 w h)) hown hK hP 45 at_45 rfl 14 (by decide) (hts _ (List.mem_cons_of_mem _ kw_t3_55)) (fun _ h9 => h9) rfl dX6_plan_149 ?_
                                refine lv_iload_n hx hb dX6_plan_152 rfl (lv_at hl 3 rfl) ?_
                                obtain ⟨jb_23, hjb_23, ejb_23⟩ := hJ3.1.resolve_left c_18
                                refine va_iald hx hb hK hP 51 0 at_51 rfl (kt_inN ejb_23 (by omega) (by decide)) dX6_plan_153 ?_
                                refine lv_topi (fun t_24 et_24 => ?_)
                                rw [ejb_23, nI_clamp (by omega)] at et_24
                                refine lv_aload_n hx hb dX6_plan_154 rfl (lv_at hl 5 rfl) ?_
                                refine va_get (D := (dC, dI)) (ci := 6) (v := .ref (a 49)) (C := RX6) (T := TX6) (N := 43) hx hb hts (fun w h => List.mem_cons_of_mem _ (inWX6 w h)) hown hK hP 45 at_45 rfl 12 (by decide) (hts _ (List.mem_cons_of_mem _ kw_t3_53)) (fun _ h9 => h9) rfl dX6_plan_155 ?_
                                refine lv_iload_n hx hb dX6_plan_158 rfl (lv_at hl 3 rfl) ?_
                                refine va_iald hx hb hK hP 49 0 at_49 rfl (kt_inN ejb_23 (by omega) (by decide)) dX6_plan_159 ?_
                                refine lv_topi (fun t_25 et_25 => ?_)
                                rw [ejb_23, nI_clamp (by omega)] at et_25
                                refine lv_iadd hx hb dX6_plan_160 ?_
                                refine lv_topi (fun t_26 et_26 => ?_)
                                refine lv_icmp_ge (tgt := 167) hx hb dX6_plan_161 (by decide) (fun c_27 => ?_) (fun c_27 => ?_)
                                · obtain ⟨t_28, et_28⟩ : ∃ y : Int32, y = k3 + 1 := ⟨_, rfl⟩
                                  refine lv_iinc (v := t_28) (lv' := [(4, .int t_28), (6, .int k4), (5, .int y4_5), (3, .int y3_3), (2, .int k2), (0, .ref (a 45)), (1, .int p0)]) hx hb dX6_plan_167 hl (k := 2) rfl (by rw [et_28]; rfl) (by decide) rfl (fun ls hl => ?_)
                                  refine lv_goto (tgt := 41) hx hb dX6_plan_170 (by decide) ?_
                                  exact ih3 (i3 + 1) t_28 y3_3 _ _ _ (by omega) (by omega) (by rw [et_28, ek3]; exact nI_1 i3) hP hS (lv_sub hl [0, 3, 4, 5, 6] rfl) ⟨hJ3.1, fun z => absurd z c_18⟩
                                · refine lv_iload hx hb dX6_plan_164 (lv_at hl 2 rfl) ?_
                                  refine lv_istore_n (lv' := [(3, .int k3), (6, .int k4), (5, .int y4_5), (4, .int k3), (2, .int k2), (0, .ref (a 45)), (1, .int p0)]) hx hb dX6_plan_166 rfl hl (by decide) rfl (fun ls hl => ?_)
                                  obtain ⟨t_29, et_29⟩ : ∃ y : Int32, y = k3 + 1 := ⟨_, rfl⟩
                                  refine lv_iinc (v := t_29) (lv' := [(4, .int t_29), (3, .int k3), (6, .int k4), (5, .int y4_5), (2, .int k2), (0, .ref (a 45)), (1, .int p0)]) hx hb dX6_plan_167 hl (k := 3) rfl (by rw [et_29]; rfl) (by decide) rfl (fun ls hl => ?_)
                                  refine lv_goto (tgt := 41) hx hb dX6_plan_170 (by decide) ?_
                                  exact ih3 (i3 + 1) t_29 k3 _ _ _ (by omega) (by omega) (by rw [et_29, ek3]; exact nI_1 i3) hP hS (lv_sub hl [0, 1, 4, 5, 6] rfl) ⟨Or.inr ⟨i3, by omega, ek3⟩, fun z => absurd z (by rw [ek3]; exact kt_nm1 (by omega))⟩
                          · refine lv_iload hx hb dX6_plan_79 (lv_at hl 1 rfl) ?_
                            refine lv_if_eq (tgt := 114) hx hb dX6_plan_81 (by decide) (fun c_30 => ?_) (fun c_30 => ?_)
                            · refine lv_iconst (v := 0) hx hb dX6_plan_114 (by decide) ?_
                              refine lv_istore (lv' := [(5, .int 0), (6, .int k4), (4, .int k3), (3, .int y3_3), (2, .int k2), (0, .ref (a 45)), (1, .int p0)]) hx hb dX6_plan_115 hl (by decide) rfl (fun ls hl => ?_)
                              obtain ⟨t_31, et_31⟩ : ∃ y : Int32, y = k4 + 1 := ⟨_, rfl⟩
                              refine lv_iinc (v := t_31) (lv' := [(6, .int t_31), (5, .int 0), (4, .int k3), (3, .int y3_3), (2, .int k2), (0, .ref (a 45)), (1, .int p0)]) hx hb dX6_plan_117 hl (k := 1) rfl (by rw [et_31]; rfl) (by decide) rfl (fun ls hl => ?_)
                              refine lv_goto (tgt := 70) hx hb dX6_plan_120 (by decide) ?_
                              have hi_32 : i4 < 12 := kt_lt12 hsc_3 ek4 hi4 c_15
                              exact ih4 (i4 + 1) t_31 0 _ _ _ (by omega) (by omega) (by rw [et_31, ek4]; exact nI_1 i4) hP hS (lv_sub hl [0, 1, 2, 3, 4, 5, 6] rfl) (fun _ => hJ4 c_30)
                            · refine lv_aload_n hx hb dX6_plan_84 rfl (lv_at hl 5 rfl) ?_
                              refine va_get (D := (dC, dI)) (ci := 6) (v := .ref (a 59)) (C := RX6) (T := TX6) (N := 43) hx hb hts (fun w h => List.mem_cons_of_mem _ (inWX6 w h)) hown hK hP 45 at_45 rfl 22 (by decide) (hts _ (List.mem_cons_of_mem _ kw_t3_63)) (fun _ h9 => h9) rfl dX6_plan_85 ?_
                              refine lv_bipush (v := 12) hx hb dX6_plan_88 (by decide) ?_
                              refine lv_iload hx hb dX6_plan_90 (lv_at hl 2 rfl) ?_
                              refine lv_imul hx hb dX6_plan_92 ?_
                              refine lv_topi (fun t_33 et_33 => ?_)
                              refine lv_iload hx hb dX6_plan_93 (lv_at hl 0 rfl) ?_
                              refine lv_iadd hx hb dX6_plan_95 ?_
                              refine lv_topi (fun t_34 et_34 => ?_)
                              have hi_36 : i4 < 12 := kt_lt12 hsc_3 ek4 hi4 c_15
                              have hm_35 : t_34 = nI (12 * i3 + i4) := kt_mad (C := 12) rfl ek3 ek4 et_33 et_34
                              refine va_zald hx hb hK hP 59 1 at_59 rfl (kt_inN hm_35 (by omega) (by decide)) dX6_plan_96 ?_
                              refine lv_topi (fun t_37 et_37 => ?_)
                              rw [hm_35, nI_clamp (by omega)] at et_37
                              refine lv_if_eq (tgt := 110) hx hb dX6_plan_97 (by decide) (fun c_38 => ?_) (fun c_38 => ?_)
                              · refine lv_iconst (v := 1) hx hb dX6_plan_110 (by decide) ?_
                                refine lv_goto (tgt := 115) hx hb dX6_plan_111 (by decide) ?_
                                refine lv_istore (lv' := [(5, .int 1), (6, .int k4), (4, .int k3), (3, .int y3_3), (2, .int k2), (0, .ref (a 45)), (1, .int p0)]) hx hb dX6_plan_115 hl (by decide) rfl (fun ls hl => ?_)
                                obtain ⟨t_39, et_39⟩ : ∃ y : Int32, y = k4 + 1 := ⟨_, rfl⟩
                                refine lv_iinc (v := t_39) (lv' := [(6, .int t_39), (5, .int 1), (4, .int k3), (3, .int y3_3), (2, .int k2), (0, .ref (a 45)), (1, .int p0)]) hx hb dX6_plan_117 hl (k := 1) rfl (by rw [et_39]; rfl) (by decide) rfl (fun ls hl => ?_)
                                refine lv_goto (tgt := 70) hx hb dX6_plan_120 (by decide) ?_
                                exact ih4 (i4 + 1) t_39 1 _ _ _ (by omega) (by omega) (by rw [et_39, ek4]; exact nI_1 i4) hP hS (lv_sub hl [0, 1, 2, 3, 4, 5, 6] rfl) (fun z => absurd z (by decide))
                              · refine lv_aload_n hx hb dX6_plan_100 rfl (lv_at hl 5 rfl) ?_
                                refine va_get (D := (dC, dI)) (ci := 6) (v := .ref (a 79)) (C := RX6) (T := TX6) (N := 43) hx hb hts (fun w h => List.mem_cons_of_mem _ (inWX6 w h)) hown hK hP 45 at_45 rfl 42 (by decide) (hts _ (List.mem_cons_of_mem _ kw_t3_83)) (fun _ h9 => h9) rfl dX6_plan_101 ?_
                                refine lv_iload hx hb dX6_plan_104 (lv_at hl 0 rfl) ?_
                                refine va_zald hx hb hK hP 79 1 at_79 rfl (kt_inN ek4 (by omega) (by decide)) dX6_plan_106 ?_
                                refine lv_topi (fun t_40 et_40 => ?_)
                                rw [ek4, nI_clamp (by omega)] at et_40
                                refine lv_if_eq (tgt := 114) hx hb dX6_plan_107 (by decide) (fun c_41 => ?_) (fun c_41 => ?_)
                                · refine lv_iconst (v := 0) hx hb dX6_plan_114 (by decide) ?_
                                  refine lv_istore (lv' := [(5, .int 0), (6, .int k4), (4, .int k3), (3, .int y3_3), (2, .int k2), (0, .ref (a 45)), (1, .int p0)]) hx hb dX6_plan_115 hl (by decide) rfl (fun ls hl => ?_)
                                  obtain ⟨t_42, et_42⟩ : ∃ y : Int32, y = k4 + 1 := ⟨_, rfl⟩
                                  refine lv_iinc (v := t_42) (lv' := [(6, .int t_42), (5, .int 0), (4, .int k3), (3, .int y3_3), (2, .int k2), (0, .ref (a 45)), (1, .int p0)]) hx hb dX6_plan_117 hl (k := 1) rfl (by rw [et_42]; rfl) (by decide) rfl (fun ls hl => ?_)
                                  refine lv_goto (tgt := 70) hx hb dX6_plan_120 (by decide) ?_
                                  exact ih4 (i4 + 1) t_42 0 _ _ _ (by omega) (by omega) (by rw [et_42, ek4]; exact nI_1 i4) hP hS (lv_sub hl [0, 1, 2, 3, 4, 5, 6] rfl) (fun _ z => z.2 i4 (by rw [← et_3]; have z9 := c_15; rw [Int32.le_iff_toInt_le, ek4, nI_toInt (by omega)] at z9; omega) (fun z8 => c_38 (et_37.trans z8)) (et_40.symm.trans c_41))
                                · refine lv_iconst (v := 1) hx hb dX6_plan_110 (by decide) ?_
                                  refine lv_goto (tgt := 115) hx hb dX6_plan_111 (by decide) ?_
                                  refine lv_istore (lv' := [(5, .int 1), (6, .int k4), (4, .int k3), (3, .int y3_3), (2, .int k2), (0, .ref (a 45)), (1, .int p0)]) hx hb dX6_plan_115 hl (by decide) rfl (fun ls hl => ?_)
                                  obtain ⟨t_43, et_43⟩ : ∃ y : Int32, y = k4 + 1 := ⟨_, rfl⟩
                                  refine lv_iinc (v := t_43) (lv' := [(6, .int t_43), (5, .int 1), (4, .int k3), (3, .int y3_3), (2, .int k2), (0, .ref (a 45)), (1, .int p0)]) hx hb dX6_plan_117 hl (k := 1) rfl (by rw [et_43]; rfl) (by decide) rfl (fun ls hl => ?_)
                                  refine lv_goto (tgt := 70) hx hb dX6_plan_120 (by decide) ?_
                                  exact ih4 (i4 + 1) t_43 1 _ _ _ (by omega) (by omega) (by rw [et_43, ek4]; exact nI_1 i4) hP hS (lv_sub hl [0, 1, 2, 3, 4, 5, 6] rfl) (fun z => absurd z (by decide))
                      exact key4 (12 + 1) 0 0 0 _ _ _ (Nat.zero_le _) (by omega) rfl hP hS (lv_sub hl [0, 1, 2, 3, 4, 5, 6] rfl) (fun _ z => c_13 (et_12.trans z.1))
                    · refine lv_iconst (v := 1) hx hb dX6_plan_60 (by decide) ?_
                      refine lv_goto (tgt := 65) hx hb dX6_plan_61 (by decide) ?_
                      refine lv_istore (lv' := [(5, .int 1), (4, .int k3), (3, .int y3_3), (2, .int k2), (0, .ref (a 45)), (1, .int p0)]) hx hb dX6_plan_65 hl (by decide) rfl (fun ls hl => ?_)
                      refine lv_iconst (v := 0) hx hb dX6_plan_67 (by decide) ?_
                      refine lv_istore (lv' := [(6, .int 0), (5, .int 1), (4, .int k3), (3, .int y3_3), (2, .int k2), (0, .ref (a 45)), (1, .int p0)]) hx hb dX6_plan_68 hl (by decide) rfl (fun ls hl => ?_)
                      have key4 : ∀ (n i4 : Nat) (k4 : Int32) (y4_5 : Int32) (H : Heap) (locs : List Loc) (ls : Array Slot), i4 ≤ 12 → 12 - i4 < n → k4 = nI i4 → va_P (dC, dI) vwCl (mW cI cZ cS cC cJ a w2) H → va_S A s.heap H locs → lv_has ls 7 [(6, .int k4), (5, .int y4_5), (4, .int k3), (3, .int y3_3), (2, .int k2), (0, .ref (a 45)), (1, .int p0)] → (y4_5 = 0 → ¬ (w2 79 i3 = 0 ∧ ∀ y : Nat, (y : Int) < (w2 45 2).toInt → w2 59 (12 * i3 + y) ≠ 0 → w2 79 y ≠ 0)) → W p l e (headSpec (Cond.code yX6_plan cX6_plan 7 (some .int) :: WW) ({ frames := 0, cells := 0, slots := 0, locals := 0 })).room s m ([.ref (a 45), .int p0] : List Value).toArray below meth c H locs 0 0 Q (F0 m 70 ls []) := by
                        intro n
                        induction n with
                        | zero => intro i k y4_5 H locs ls h1 h2; exact absurd h2 (by omega)
                        | succ n ih4 =>
                          intro i4 k4 y4_5 H locs ls hi4 hin4 ek4 hP hS hl hJ4
                          refine lv_iload hx hb dX6_plan_70 (lv_at hl 0 rfl) ?_
                          refine lv_aload_n hx hb dX6_plan_72 rfl (lv_at hl 5 rfl) ?_
                          refine va_get (D := (dC, dI)) (ci := 6) (v := .int (w2 45 2)) (C := RX6) (T := TX6) (N := 43) hx hb hts (fun w h => List.mem_cons_of_mem _ (inWX6 w h)) hown hK hP 45 at_45 rfl 2 (by decide) (hts _ (List.mem_cons_of_mem _ kw_t3_43)) (fun _ h9 => h9) rfl dX6_plan_73 ?_
                          refine lv_topi (fun t_44 et_44 => ?_)
                          obtain rfl : t_3 = t_44 := et_3.trans et_44.symm
                          refine lv_icmp_ge (tgt := 123) hx hb dX6_plan_76 (by decide) (fun c_45 => ?_) (fun c_45 => ?_)
                          · refine lv_iload hx hb dX6_plan_123 (lv_at hl 1 rfl) ?_
                            refine lv_if_eq (tgt := 167) hx hb dX6_plan_125 (by decide) (fun c_46 => ?_) (fun c_46 => ?_)
                            · obtain ⟨t_47, et_47⟩ : ∃ y : Int32, y = k3 + 1 := ⟨_, rfl⟩
                              refine lv_iinc (v := t_47) (lv' := [(4, .int t_47), (6, .int k4), (5, .int y4_5), (3, .int y3_3), (2, .int k2), (0, .ref (a 45)), (1, .int p0)]) hx hb dX6_plan_167 hl (k := 2) rfl (by rw [et_47]; rfl) (by decide) rfl (fun ls hl => ?_)
                              refine lv_goto (tgt := 41) hx hb dX6_plan_170 (by decide) ?_
                              exact ih3 (i3 + 1) t_47 y3_3 _ _ _ (by omega) (by omega) (by rw [et_47, ek3]; exact nI_1 i3) hP hS (lv_sub hl [0, 3, 4, 5, 6] rfl) ⟨hJ3.1, fun z x hx => by by_cases h9 : x = i3; (obtain rfl : i3 = x := h9.symm; exact hJ4 c_46); exact hJ3.2 z x (by omega)⟩
                            · refine lv_iload_n hx hb dX6_plan_128 rfl (lv_at hl 3 rfl) ?_
                              refine lv_iconst (v := (-1)) hx hb dX6_plan_129 (by decide) ?_
                              refine lv_icmp_eq (tgt := 164) hx hb dX6_plan_130 (by decide) (fun c_48 => ?_) (fun c_48 => ?_)
                              · refine lv_iload hx hb dX6_plan_164 (lv_at hl 2 rfl) ?_
                                refine lv_istore_n (lv' := [(3, .int k3), (6, .int k4), (5, .int y4_5), (4, .int k3), (2, .int k2), (0, .ref (a 45)), (1, .int p0)]) hx hb dX6_plan_166 rfl hl (by decide) rfl (fun ls hl => ?_)
                                obtain ⟨t_49, et_49⟩ : ∃ y : Int32, y = k3 + 1 := ⟨_, rfl⟩
                                refine lv_iinc (v := t_49) (lv' := [(4, .int t_49), (3, .int k3), (6, .int k4), (5, .int y4_5), (2, .int k2), (0, .ref (a 45)), (1, .int p0)]) hx hb dX6_plan_167 hl (k := 3) rfl (by rw [et_49]; rfl) (by decide) rfl (fun ls hl => ?_)
                                refine lv_goto (tgt := 41) hx hb dX6_plan_170 (by decide) ?_
                                exact ih3 (i3 + 1) t_49 k3 _ _ _ (by omega) (by omega) (by rw [et_49, ek3]; exact nI_1 i3) hP hS (lv_sub hl [0, 1, 4, 5, 6] rfl) ⟨Or.inr ⟨i3, by omega, ek3⟩, fun z => absurd z (by rw [ek3]; exact kt_nm1 (by omega))⟩
                              · refine lv_aload_n hx hb dX6_plan_133 rfl (lv_at hl 5 rfl) ?_
                                refine va_get (D := (dC, dI)) (ci := 6) (v := .ref (a 51)) (C := RX6) (T := TX6) (N := 43) hx hb hts (fun w h => List.mem_cons_of_mem _ (inWX6 w h)) hown hK hP 45 at_45 rfl 14 (by decide) (hts _ (List.mem_cons_of_mem _ kw_t3_55)) (fun _ h9 => h9) rfl dX6_plan_134 ?_
                                refine lv_iload hx hb dX6_plan_137 (lv_at hl 2 rfl) ?_
                                refine va_iald hx hb hK hP 51 0 at_51 rfl (kt_inN ek3 (by omega) (by decide)) dX6_plan_139 ?_
                                refine lv_topi (fun t_50 et_50 => ?_)
                                rw [ek3, nI_clamp (by omega)] at et_50
                                refine lv_aload_n hx hb dX6_plan_140 rfl (lv_at hl 5 rfl) ?_
                                refine va_get (D := (dC, dI)) (ci := 6) (v := .ref (a 49)) (C := RX6) (T := TX6) (N := 43) hx hb hts (fun w h => List.mem_cons_of_mem _ (inWX6 w h)) hown hK hP 45 at_45 rfl 12 (by decide) (hts _ (List.mem_cons_of_mem _ kw_t3_53)) (fun _ h9 => h9) rfl dX6_plan_141 ?_
                                refine lv_iload hx hb dX6_plan_144 (lv_at hl 2 rfl) ?_
                                refine va_iald hx hb hK hP 49 0 at_49 rfl (kt_inN ek3 (by omega) (by decide)) dX6_plan_146 ?_
                                refine lv_topi (fun t_51 et_51 => ?_)
                                rw [ek3, nI_clamp (by omega)] at et_51
                                refine lv_iadd hx hb dX6_plan_147 ?_
                                refine lv_topi (fun t_52 et_52 => ?_)
                                refine lv_aload_n hx hb dX6_plan_148 rfl (lv_at hl 5 rfl) ?_
                                refine va_get (D := (dC, dI)) (ci := 6) (v := .ref (a 51)) (C := RX6) (T := TX6) (N := 43) hx hb hts (fun w h => List.mem_cons_of_mem _ (inWX6 w h)) hown hK hP 45 at_45 rfl 14 (by decide) (hts _ (List.mem_cons_of_mem _ kw_t3_55)) (fun _ h9 => h9) rfl dX6_plan_149 ?_
                                refine lv_iload_n hx hb dX6_plan_152 rfl (lv_at hl 3 rfl) ?_
                                obtain ⟨jb_53, hjb_53, ejb_53⟩ := hJ3.1.resolve_left c_48
                                refine va_iald hx hb hK hP 51 0 at_51 rfl (kt_inN ejb_53 (by omega) (by decide)) dX6_plan_153 ?_
                                refine lv_topi (fun t_54 et_54 => ?_)
                                rw [ejb_53, nI_clamp (by omega)] at et_54
                                refine lv_aload_n hx hb dX6_plan_154 rfl (lv_at hl 5 rfl) ?_
                                refine va_get (D := (dC, dI)) (ci := 6) (v := .ref (a 49)) (C := RX6) (T := TX6) (N := 43) hx hb hts (fun w h => List.mem_cons_of_mem _ (inWX6 w h)) hown hK hP 45 at_45 rfl 12 (by decide) (hts _ (List.mem_cons_of_mem _ kw_t3_53)) (fun _ h9 => h9) rfl dX6_plan_155 ?_
                                refine lv_iload_n hx hb dX6_plan_158 rfl (lv_at hl 3 rfl) ?_
                                refine va_iald hx hb hK hP 49 0 at_49 rfl (kt_inN ejb_53 (by omega) (by decide)) dX6_plan_159 ?_
                                refine lv_topi (fun t_55 et_55 => ?_)
                                rw [ejb_53, nI_clamp (by omega)] at et_55
                                refine lv_iadd hx hb dX6_plan_160 ?_
                                refine lv_topi (fun t_56 et_56 => ?_)
                                refine lv_icmp_ge (tgt := 167) hx hb dX6_plan_161 (by decide) (fun c_57 => ?_) (fun c_57 => ?_)
                                · obtain ⟨t_58, et_58⟩ : ∃ y : Int32, y = k3 + 1 := ⟨_, rfl⟩
                                  refine lv_iinc (v := t_58) (lv' := [(4, .int t_58), (6, .int k4), (5, .int y4_5), (3, .int y3_3), (2, .int k2), (0, .ref (a 45)), (1, .int p0)]) hx hb dX6_plan_167 hl (k := 2) rfl (by rw [et_58]; rfl) (by decide) rfl (fun ls hl => ?_)
                                  refine lv_goto (tgt := 41) hx hb dX6_plan_170 (by decide) ?_
                                  exact ih3 (i3 + 1) t_58 y3_3 _ _ _ (by omega) (by omega) (by rw [et_58, ek3]; exact nI_1 i3) hP hS (lv_sub hl [0, 3, 4, 5, 6] rfl) ⟨hJ3.1, fun z => absurd z c_48⟩
                                · refine lv_iload hx hb dX6_plan_164 (lv_at hl 2 rfl) ?_
                                  refine lv_istore_n (lv' := [(3, .int k3), (6, .int k4), (5, .int y4_5), (4, .int k3), (2, .int k2), (0, .ref (a 45)), (1, .int p0)]) hx hb dX6_plan_166 rfl hl (by decide) rfl (fun ls hl => ?_)
                                  obtain ⟨t_59, et_59⟩ : ∃ y : Int32, y = k3 + 1 := ⟨_, rfl⟩
                                  refine lv_iinc (v := t_59) (lv' := [(4, .int t_59), (3, .int k3), (6, .int k4), (5, .int y4_5), (2, .int k2), (0, .ref (a 45)), (1, .int p0)]) hx hb dX6_plan_167 hl (k := 3) rfl (by rw [et_59]; rfl) (by decide) rfl (fun ls hl => ?_)
                                  refine lv_goto (tgt := 41) hx hb dX6_plan_170 (by decide) ?_
                                  exact ih3 (i3 + 1) t_59 k3 _ _ _ (by omega) (by omega) (by rw [et_59, ek3]; exact nI_1 i3) hP hS (lv_sub hl [0, 1, 4, 5, 6] rfl) ⟨Or.inr ⟨i3, by omega, ek3⟩, fun z => absurd z (by rw [ek3]; exact kt_nm1 (by omega))⟩
                          · refine lv_iload hx hb dX6_plan_79 (lv_at hl 1 rfl) ?_
                            refine lv_if_eq (tgt := 114) hx hb dX6_plan_81 (by decide) (fun c_60 => ?_) (fun c_60 => ?_)
                            · refine lv_iconst (v := 0) hx hb dX6_plan_114 (by decide) ?_
                              refine lv_istore (lv' := [(5, .int 0), (6, .int k4), (4, .int k3), (3, .int y3_3), (2, .int k2), (0, .ref (a 45)), (1, .int p0)]) hx hb dX6_plan_115 hl (by decide) rfl (fun ls hl => ?_)
                              obtain ⟨t_61, et_61⟩ : ∃ y : Int32, y = k4 + 1 := ⟨_, rfl⟩
                              refine lv_iinc (v := t_61) (lv' := [(6, .int t_61), (5, .int 0), (4, .int k3), (3, .int y3_3), (2, .int k2), (0, .ref (a 45)), (1, .int p0)]) hx hb dX6_plan_117 hl (k := 1) rfl (by rw [et_61]; rfl) (by decide) rfl (fun ls hl => ?_)
                              refine lv_goto (tgt := 70) hx hb dX6_plan_120 (by decide) ?_
                              have hi_62 : i4 < 12 := kt_lt12 hsc_3 ek4 hi4 c_45
                              exact ih4 (i4 + 1) t_61 0 _ _ _ (by omega) (by omega) (by rw [et_61, ek4]; exact nI_1 i4) hP hS (lv_sub hl [0, 1, 2, 3, 4, 5, 6] rfl) (fun _ => hJ4 c_60)
                            · refine lv_aload_n hx hb dX6_plan_84 rfl (lv_at hl 5 rfl) ?_
                              refine va_get (D := (dC, dI)) (ci := 6) (v := .ref (a 59)) (C := RX6) (T := TX6) (N := 43) hx hb hts (fun w h => List.mem_cons_of_mem _ (inWX6 w h)) hown hK hP 45 at_45 rfl 22 (by decide) (hts _ (List.mem_cons_of_mem _ kw_t3_63)) (fun _ h9 => h9) rfl dX6_plan_85 ?_
                              refine lv_bipush (v := 12) hx hb dX6_plan_88 (by decide) ?_
                              refine lv_iload hx hb dX6_plan_90 (lv_at hl 2 rfl) ?_
                              refine lv_imul hx hb dX6_plan_92 ?_
                              refine lv_topi (fun t_63 et_63 => ?_)
                              refine lv_iload hx hb dX6_plan_93 (lv_at hl 0 rfl) ?_
                              refine lv_iadd hx hb dX6_plan_95 ?_
                              refine lv_topi (fun t_64 et_64 => ?_)
                              have hi_66 : i4 < 12 := kt_lt12 hsc_3 ek4 hi4 c_45
                              have hm_65 : t_64 = nI (12 * i3 + i4) := kt_mad (C := 12) rfl ek3 ek4 et_63 et_64
                              refine va_zald hx hb hK hP 59 1 at_59 rfl (kt_inN hm_65 (by omega) (by decide)) dX6_plan_96 ?_
                              refine lv_topi (fun t_67 et_67 => ?_)
                              rw [hm_65, nI_clamp (by omega)] at et_67
                              refine lv_if_eq (tgt := 110) hx hb dX6_plan_97 (by decide) (fun c_68 => ?_) (fun c_68 => ?_)
                              · refine lv_iconst (v := 1) hx hb dX6_plan_110 (by decide) ?_
                                refine lv_goto (tgt := 115) hx hb dX6_plan_111 (by decide) ?_
                                refine lv_istore (lv' := [(5, .int 1), (6, .int k4), (4, .int k3), (3, .int y3_3), (2, .int k2), (0, .ref (a 45)), (1, .int p0)]) hx hb dX6_plan_115 hl (by decide) rfl (fun ls hl => ?_)
                                obtain ⟨t_69, et_69⟩ : ∃ y : Int32, y = k4 + 1 := ⟨_, rfl⟩
                                refine lv_iinc (v := t_69) (lv' := [(6, .int t_69), (5, .int 1), (4, .int k3), (3, .int y3_3), (2, .int k2), (0, .ref (a 45)), (1, .int p0)]) hx hb dX6_plan_117 hl (k := 1) rfl (by rw [et_69]; rfl) (by decide) rfl (fun ls hl => ?_)
                                refine lv_goto (tgt := 70) hx hb dX6_plan_120 (by decide) ?_
                                exact ih4 (i4 + 1) t_69 1 _ _ _ (by omega) (by omega) (by rw [et_69, ek4]; exact nI_1 i4) hP hS (lv_sub hl [0, 1, 2, 3, 4, 5, 6] rfl) (fun z => absurd z (by decide))
                              · refine lv_aload_n hx hb dX6_plan_100 rfl (lv_at hl 5 rfl) ?_
                                refine va_get (D := (dC, dI)) (ci := 6) (v := .ref (a 79)) (C := RX6) (T := TX6) (N := 43) hx hb hts (fun w h => List.mem_cons_of_mem _ (inWX6 w h)) hown hK hP 45 at_45 rfl 42 (by decide) (hts _ (List.mem_cons_of_mem _ kw_t3_83)) (fun _ h9 => h9) rfl dX6_plan_101 ?_
                                refine lv_iload hx hb dX6_plan_104 (lv_at hl 0 rfl) ?_
                                refine va_zald hx hb hK hP 79 1 at_79 rfl (kt_inN ek4 (by omega) (by decide)) dX6_plan_106 ?_
                                refine lv_topi (fun t_70 et_70 => ?_)
                                rw [ek4, nI_clamp (by omega)] at et_70
                                refine lv_if_eq (tgt := 114) hx hb dX6_plan_107 (by decide) (fun c_71 => ?_) (fun c_71 => ?_)
                                · refine lv_iconst (v := 0) hx hb dX6_plan_114 (by decide) ?_
                                  refine lv_istore (lv' := [(5, .int 0), (6, .int k4), (4, .int k3), (3, .int y3_3), (2, .int k2), (0, .ref (a 45)), (1, .int p0)]) hx hb dX6_plan_115 hl (by decide) rfl (fun ls hl => ?_)
                                  obtain ⟨t_72, et_72⟩ : ∃ y : Int32, y = k4 + 1 := ⟨_, rfl⟩
                                  refine lv_iinc (v := t_72) (lv' := [(6, .int t_72), (5, .int 0), (4, .int k3), (3, .int y3_3), (2, .int k2), (0, .ref (a 45)), (1, .int p0)]) hx hb dX6_plan_117 hl (k := 1) rfl (by rw [et_72]; rfl) (by decide) rfl (fun ls hl => ?_)
                                  refine lv_goto (tgt := 70) hx hb dX6_plan_120 (by decide) ?_
                                  exact ih4 (i4 + 1) t_72 0 _ _ _ (by omega) (by omega) (by rw [et_72, ek4]; exact nI_1 i4) hP hS (lv_sub hl [0, 1, 2, 3, 4, 5, 6] rfl) (fun _ z => z.2 i4 (by rw [← et_3]; have z9 := c_45; rw [Int32.le_iff_toInt_le, ek4, nI_toInt (by omega)] at z9; omega) (fun z8 => c_68 (et_67.trans z8)) (et_70.symm.trans c_71))
                                · refine lv_iconst (v := 1) hx hb dX6_plan_110 (by decide) ?_
                                  refine lv_goto (tgt := 115) hx hb dX6_plan_111 (by decide) ?_
                                  refine lv_istore (lv' := [(5, .int 1), (6, .int k4), (4, .int k3), (3, .int y3_3), (2, .int k2), (0, .ref (a 45)), (1, .int p0)]) hx hb dX6_plan_115 hl (by decide) rfl (fun ls hl => ?_)
                                  obtain ⟨t_73, et_73⟩ : ∃ y : Int32, y = k4 + 1 := ⟨_, rfl⟩
                                  refine lv_iinc (v := t_73) (lv' := [(6, .int t_73), (5, .int 1), (4, .int k3), (3, .int y3_3), (2, .int k2), (0, .ref (a 45)), (1, .int p0)]) hx hb dX6_plan_117 hl (k := 1) rfl (by rw [et_73]; rfl) (by decide) rfl (fun ls hl => ?_)
                                  refine lv_goto (tgt := 70) hx hb dX6_plan_120 (by decide) ?_
                                  exact ih4 (i4 + 1) t_73 1 _ _ _ (by omega) (by omega) (by rw [et_73, ek4]; exact nI_1 i4) hP hS (lv_sub hl [0, 1, 2, 3, 4, 5, 6] rfl) (fun z => absurd z (by decide))
                      exact key4 (12 + 1) 0 0 1 _ _ _ (Nat.zero_le _) (by omega) rfl hP hS (lv_sub hl [0, 1, 2, 3, 4, 5, 6] rfl) (fun z => absurd z (by decide))
              exact key3 (12 + 1) 0 0 (-1) _ _ _ (Nat.zero_le _) (by omega) rfl hP hS (lv_sub hl [0, 1, 2, 3, 4] rfl) ⟨Or.inl rfl, fun _ x hx => absurd hx (by omega)⟩
        exact key2 (12 + 1) 0 0 w1 _ _ _ (Nat.zero_le _) (by omega) rfl hP hS (lv_sub hl [0, 1, 2] rfl) hB hL (by rw [cnR_zero 12 (fun x hx => hJ1.2 x (by have := hxA; omega))]; exact Nat.zero_le _)
      · refine lv_aload_n hx hb dX6_plan_13 rfl (lv_at hl 1 rfl) ?_
        refine va_get (D := (dC, dI)) (ci := 6) (v := .ref (a 79)) (C := RX6) (T := TX6) (N := 43) hx hb hts (fun w h => List.mem_cons_of_mem _ (inWX6 w h)) hown hK hP 45 at_45 rfl 42 (by decide) (hts _ (List.mem_cons_of_mem _ kw_t3_83)) (fun _ h9 => h9) rfl dX6_plan_14 ?_
        refine lv_iload_n hx hb dX6_plan_17 rfl (lv_at hl 0 rfl) ?_
        refine lv_iconst (v := 0) hx hb dX6_plan_18 (by decide) ?_
        have hi_74 : i1 < 12 := kt_lt (N := 12) rfl (by decide) ek1 hi1 c_2
        refine va_zast hx hb hK hP (mD_of hD hAc) hS 79 1 at_79 rfl (kt_inN ek1 (by omega) (by decide)) dX6_plan_19 (fun H locs hP _ hS => ?_)
        obtain ⟨v_75, ev_75⟩ : ∃ z, z = mU w1 79 (upd (w1 79) i1 (vp_nar .boolean 0)) := ⟨_, rfl⟩
        have hP : va_P (dC, dI) vwCl (mW cI cZ cS cC cJ a v_75) H := by rw [ev_75]; exact mW_put hP (by omega) (by rw [ek1, nI_clamp (by omega)]; rfl)
        have hB := hB.put ev_75 (by decide)
        have hL := hL.put ev_75 (by decide)
        obtain ⟨t_76, et_76⟩ : ∃ y : Int32, y = k1 + 1 := ⟨_, rfl⟩
        refine lv_iinc (v := t_76) (lv' := [(2, .int t_76), (0, .ref (a 45)), (1, .int p0)]) hx hb dX6_plan_20 hl (k := 0) rfl (by rw [et_76]; rfl) (by decide) rfl (fun ls hl => ?_)
        refine lv_goto (tgt := 7) hx hb dX6_plan_23 (by decide) ?_
        exact ih1 (i1 + 1) t_76 v_75 _ _ _ (by omega) (by omega) (by rw [et_76, ek1]; exact nI_1 i1) hP hS (lv_sub hl [0, 1, 2] rfl) hB hL ⟨(fun c hc => by rw [ev_75, mU_ne _ _ hc]; exact hJ1.1 c hc), fun x hx => by rw [ev_75, mU_self]; by_cases z : x = i1; (simp only [upd, if_pos z]; rfl); simp only [upd, if_neg z]; exact hJ1.2 x (by omega)⟩
  exact key1 (12 + 1) 0 0 v_1 _ _ _ (Nat.zero_le _) (by omega) rfl hP hS (lv_sub hl [0, 1, 2] rfl) hB hL ⟨fun _ _ => rfl, fun x hx => absurd hx (by omega)⟩
