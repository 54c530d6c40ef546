set_option maxHeartbeats 4000000 in
set_option maxRecDepth 100000 in
theorem c_X6_hangsOn (l : Launch) (dC : Nat → ClassId) (dI : Nat → Nat → Nat) (cI cZ cS cC cJ : ClassId) (a : Nat → Nat) (v : Nat → Nat → Int32) (sz : Nat) (p0 p1 : Int32) (hD : mDD a) (gn : Nat) (hn : gn < 200000) (hB : rB gn v v) (i0 : Nat) (hi0 : i0 < 12) (ei0 : p0 = nI i0) (q1 : Nat) (hq1 : q1 < 12) (eq1 : p1 = nI q1) : Met l yX6_hangsOn (Cond.code yX6_hangsOn cX6_hangsOn 6 (some .boolean) :: WW) ({ frames := 0, cells := 0, slots := 0, locals := 0 }) (va_Pc [.ref (a 45), .int p0, .int p1] (fun U => U.heap.size = sz ∧ va_P (dC, dI) vwCl (mW cI cZ cS cC cJ a v) U.heap ∧ va_K (dC, dI) vwCl [(cI, .int), (cZ, .boolean), (cS, .object RX3), (cC, .object RX0), (cJ, .long)] U ∧ mN U)) (va_Qi (fun (r : Int32) (u : Nat → Nat → Int32) => (∀ c, c ≠ 78 → u c = v c) ∧ (r = u 78 q1 ∧ (r = 0 ∨ r = 1) ∧ (∀ x y : Nat, (x : Int) < (v 45 2).toInt → (y : Int) < (v 45 2).toInt → hC (v 59) i0 (u 78) x y) ∧ (r = 1 ↔ Rch (fun a b => v 59 (12 * a + b) ≠ 0) i0 q1))) (fun (u : Nat → Nat → Int32) (t : State) => va_P (dC, dI) vwCl (mW cI cZ cS cC cJ a u) t.heap) (mA a sz)) 0 0 (mA a sz) := by
  refine Met.ofW (cc := cX6_hangsOn) (maxL := 6) (ret := (some .boolean)) (by decide) rfl ?_
  intro p e s m args below meth c s₁ B hml hv
  obtain ⟨rfl, hsz, hP, hK, hN⟩ := hv
  have hx := B.exec
  have hb := B.bytes
  have hr := B.returns
  have hts := atoms_spec (ws := Cond.code yX6_hangsOn cX6_hangsOn 6 (some .boolean) :: WW) B.pre
  have hown : s.vm.findClass RX6 = some m.cls := findClass_of_methodNamed B.named
  have hlocks := B.notSynchronized
  subst hsz
  have hAc : ∀ c, c < 81 → mA a s.heap.size (a c) := fun c h => Or.inl ⟨c, h, rfl⟩
  have hA : ∀ q : Nat, s.heap.size ≤ q → mA a s.heap.size q := fun q h => Or.inr h
  generalize hAe : mA a s.heap.size = A at hAc hA ⊢
  have hS : va_S A s.heap s.heap [] := va_S.rf
  have hl := lv_entry ([.ref (a 45), .int p0, .int p1]) (n := 6) (Nat.le_of_ble_eq_true rfl)
  rw [lg_entry_eq]
  generalize (lg_sl ([.ref (a 45), .int p0, .int p1]) ++ List.replicate (6 - (lg_sl ([.ref (a 45), .int p0, .int p1])).length) Slot.unset).toArray = ls at hl ⊢
  have hl : lv_has ls 6 [(0, .ref (a 45)), (1, .int p0), (2, .int p1)] := hl
  have hB0 := hB
  refine kt_absQ (fun Q hQ9 => ?_)
  refine lv_iconst (v := 0) hx hb dX6_hangsOn_0 (by decide) ?_
  refine lv_istore_n (lv' := [(3, .int 0), (0, .ref (a 45)), (1, .int p0), (2, .int p1)]) hx hb dX6_hangsOn_1 rfl hl (by decide) rfl (fun ls hl => ?_)
  have key1 : ∀ (n i1 : Nat) (k1 : Int32) (w1 : Nat → Nat → Int32) (H : Heap) (locs : List Loc) (ls : Array Slot), i1 ≤ 12 → 12 - i1 < n → k1 = nI i1 → va_P (dC, dI) vwCl (mW cI cZ cS cC cJ a w1) H → va_S A s.heap H locs → lv_has ls 6 [(3, .int k1), (0, .ref (a 45)), (1, .int p0), (2, .int p1)] → rB gn v w1 → ((∀ c, c ≠ 78 → w1 c = v c) ∧ ∀ x, x < i1 → w1 78 x = 0) → W p l e (headSpec (Cond.code yX6_hangsOn cX6_hangsOn 6 (some .boolean) :: WW) ({ frames := 0, cells := 0, slots := 0, locals := 0 })).room s m ([.ref (a 45), .int p0, .int p1] : List Value).toArray below meth c H locs 0 0 Q (F0 m 2 ls []) := by
    intro n
    induction n with
    | zero => intro i k w1 H locs ls h1 h2; exact absurd h2 (by omega)
    | succ n ih1 =>
      intro i1 k1 w1 H locs ls hi1 hin1 ek1 hP hS hl hB hJ1
      refine lv_iload_n hx hb dX6_hangsOn_2 rfl (lv_at hl 0 rfl) ?_
      refine lv_bipush (v := 12) hx hb dX6_hangsOn_3 (by decide) ?_
      refine lv_icmp_ge (tgt := 21) hx hb dX6_hangsOn_5 (by decide) (fun c_1 => ?_) (fun c_1 => ?_)
      · have hxA : 12 ≤ i1 := by have z := c_1; rw [Int32.le_iff_toInt_le, ek1, nI_toInt (by omega), L12] at z; omega
        refine lv_iconst (v := 1) hx hb dX6_hangsOn_21 (by decide) ?_
        refine lv_istore_n (lv' := [(3, .int 1), (0, .ref (a 45)), (1, .int p0), (2, .int p1)]) hx hb dX6_hangsOn_22 rfl hl (by decide) rfl (fun ls hl => ?_)
        have key2 : ∀ (n : Nat) (y2_3 : Int32) (w2 : Nat → Nat → Int32) (H : Heap) (locs : List Loc) (ls : Array Slot), czR (w2 78) 12 + (if y2_3 = 0 then 0 else 1) < n → va_P (dC, dI) vwCl (mW cI cZ cS cC cJ a w2) H → va_S A s.heap H locs → lv_has ls 6 [(3, .int y2_3), (0, .ref (a 45)), (1, .int p0), (2, .int p1)] → rB gn v w2 → ((∀ c, c ≠ 78 → w2 c = v c) ∧ hN78 (v 59) i0 (w2 78) ∧ (y2_3 = 0 → ∀ x y : Nat, (x : Int) < (v 45 2).toInt → (y : Int) < (v 45 2).toInt → hC (v 59) i0 (w2 78) x y)) → W p l e (headSpec (Cond.code yX6_hangsOn cX6_hangsOn 6 (some .boolean) :: WW) ({ frames := 0, cells := 0, slots := 0, locals := 0 })).room s m ([.ref (a 45), .int p0, .int p1] : List Value).toArray below meth c H locs 0 0 Q (F0 m 23 ls []) := by
          intro n
          induction n with
          | zero => intro y2_3 w2 H locs ls h1; exact absurd h1 (by omega)
          | succ n ih2 =>
            intro y2_3 w2 H locs ls hm2 hP hS hl hB hJ2
            refine lv_iload_n hx hb dX6_hangsOn_23 rfl (lv_at hl 0 rfl) ?_
            refine lv_if_eq (tgt := 123) hx hb dX6_hangsOn_24 (by decide) (fun c_2 => ?_) (fun c_2 => ?_)
            · refine lv_aload_n hx hb dX6_hangsOn_123 rfl (lv_at hl 1 rfl) ?_
              refine va_get (D := (dC, dI)) (ci := 6) (v := .ref (a 78)) (C := RX6) (T := TX6) (N := 43) hx hb hts (fun w h => List.mem_cons_of_mem _ (inWX6 w h)) hown hK hP 45 at_45 rfl 41 (by decide) (hts _ (List.mem_cons_of_mem _ kw_t3_82)) (fun _ h9 => h9) rfl dX6_hangsOn_124 ?_
              refine lv_iload_n hx hb dX6_hangsOn_127 rfl (lv_at hl 3 rfl) ?_
              refine va_zald hx hb hK hP 78 1 at_78 rfl (kt_inN eq1 (by omega) (by decide)) dX6_hangsOn_128 ?_
              refine lv_topi (fun t_3 et_3 => ?_)
              rw [eq1, nI_clamp (by omega)] at et_3
              rcases hJ2.2.1 q1 hq1 with hz_4 | ⟨hz_4, hr_4⟩
              · obtain rfl : t_3 = 0 := et_3.trans hz_4
                rw [hQ9]
                exact W.zret (v := 0) (ty := .boolean) hx hb hr rfl (fun t ht hW => ⟨⟨0, w2, rfl, ⟨hJ2.1, ⟨hz_4.symm, Or.inl rfl, hJ2.2.2 c_2, ⟨fun z => absurd z (by decide), fun z => absurd hz_4 (hC_fin hB0.nd hi0 (hJ2.2.2 c_2) z)⟩⟩⟩, kt_heap ht hP⟩, hS.F ht⟩) hS.2.2 dX6_hangsOn_129
              · obtain rfl : t_3 = 1 := et_3.trans hz_4
                rw [hQ9]
                exact W.zret (v := 1) (ty := .boolean) hx hb hr rfl (fun t ht hW => ⟨⟨1, w2, rfl, ⟨hJ2.1, ⟨hz_4.symm, Or.inr rfl, hJ2.2.2 c_2, ⟨fun _ => hr_4, fun _ => rfl⟩⟩⟩, kt_heap ht hP⟩, hS.F ht⟩) hS.2.2 dX6_hangsOn_129
            · refine lv_iconst (v := 0) hx hb dX6_hangsOn_27 (by decide) ?_
              refine lv_istore_n (lv' := [(3, .int 0), (0, .ref (a 45)), (1, .int p0), (2, .int p1)]) hx hb dX6_hangsOn_28 rfl hl (by decide) rfl (fun ls hl => ?_)
              refine lv_iconst (v := 0) hx hb dX6_hangsOn_29 (by decide) ?_
              refine lv_istore (lv' := [(4, .int 0), (3, .int 0), (0, .ref (a 45)), (1, .int p0), (2, .int p1)]) hx hb dX6_hangsOn_30 hl (by decide) rfl (fun ls hl => ?_)
              have key3 : ∀ (n i3 : Nat) (k3 : Int32) (y3_3 : Int32) (w3 : Nat → Nat → Int32) (H : Heap) (locs : List Loc) (ls : Array Slot), i3 ≤ 12 → 12 - i3 < n → k3 = nI i3 → va_P (dC, dI) vwCl (mW cI cZ cS cC cJ a w3) H → va_S A s.heap H locs → lv_has ls 6 [(4, .int k3), (3, .int y3_3), (0, .ref (a 45)), (1, .int p0), (2, .int p1)] → rB gn v w3 → ((∀ c, c ≠ 78 → w3 c = v c) ∧ hN78 (v 59) i0 (w3 78) ∧ czR (w3 78) 12 ≤ czR (w2 78) 12 ∧ (y3_3 ≠ 0 → czR (w3 78) 12 < czR (w2 78) 12) ∧ (y3_3 = 0 → ∀ x : Nat, x < i3 → ∀ y : Nat, (y : Int) < (v 45 2).toInt → hC (v 59) i0 (w3 78) x y)) → W p l e (headSpec (Cond.code yX6_hangsOn cX6_hangsOn 6 (some .boolean) :: WW) ({ frames := 0, cells := 0, slots := 0, locals := 0 })).room s m ([.ref (a 45), .int p0, .int p1] : List Value).toArray below meth c H locs 0 0 Q (F0 m 32 ls []) := by
                intro n
                induction n with
                | zero => intro i k y3_3 w3 H locs ls h1 h2; exact absurd h2 (by omega)
                | succ n ih3 =>
                  intro i3 k3 y3_3 w3 H locs ls hi3 hin3 ek3 hP hS hl hB hJ3
                  refine lv_iload hx hb dX6_hangsOn_32 (lv_at hl 0 rfl) ?_
                  refine lv_aload_n hx hb dX6_hangsOn_34 rfl (lv_at hl 2 rfl) ?_
                  refine va_get (D := (dC, dI)) (ci := 6) (v := .int (w3 45 2)) (C := RX6) (T := TX6) (N := 43) hx hb hts (fun w h => List.mem_cons_of_mem _ (inWX6 w h)) hown hK hP 45 at_45 rfl 2 (by decide) (hts _ (List.mem_cons_of_mem _ kw_t3_43)) (fun _ h9 => h9) rfl dX6_hangsOn_35 ?_
                  refine lv_topi (fun t_5 et_5 => ?_)
                  have hsc_5 : 0 ≤ t_5.toInt ∧ t_5.toInt ≤ 12 := by rw [et_5]; exact hB.sc
                  refine lv_icmp_ge (tgt := 120) hx hb dX6_hangsOn_38 (by decide) (fun c_6 => ?_) (fun c_6 => ?_)
                  · have hxC : (v 45 2).toInt ≤ i3 := by have z := c_6; rw [Int32.le_iff_toInt_le, ek3, nI_toInt (by omega), et_5, hJ3.1 45 (by decide)] at z; exact z
                    refine lv_goto (tgt := 23) hx hb dX6_hangsOn_120 (by decide) ?_
                    exact ih2 y3_3 w3 _ _ _ (by have z1 := hJ3.2.2.1; have z2 := hJ3.2.2.2.1; have z3 := hm2; by_cases z : y3_3 = 0; (rw [if_pos z]; rw [if_neg c_2] at z3; omega); rw [if_neg z]; rw [if_neg c_2] at z3; have := z2 z; omega) hP hS (lv_sub hl [1, 2, 3, 4] rfl) hB ⟨hJ3.1, hJ3.2.1, fun z x y hx hy => hJ3.2.2.2.2 z x (by have := hxC; omega) y hy⟩
                  · refine lv_iconst (v := 0) hx hb dX6_hangsOn_41 (by decide) ?_
                    refine lv_istore (lv' := [(5, .int 0), (4, .int k3), (3, .int y3_3), (0, .ref (a 45)), (1, .int p0), (2, .int p1)]) hx hb dX6_hangsOn_42 hl (by decide) rfl (fun ls hl => ?_)
                    have hi_7 : i3 < 12 := kt_lt12 hsc_5 ek3 hi3 c_6
                    have key4 : ∀ (n i4 : Nat) (k4 : Int32) (y4_3 : Int32) (w4 : Nat → Nat → Int32) (H : Heap) (locs : List Loc) (ls : Array Slot), i4 ≤ 12 → 12 - i4 < n → k4 = nI i4 → va_P (dC, dI) vwCl (mW cI cZ cS cC cJ a w4) H → va_S A s.heap H locs → lv_has ls 6 [(5, .int k4), (4, .int k3), (3, .int y4_3), (0, .ref (a 45)), (1, .int p0), (2, .int p1)] → rB gn v w4 → ((∀ c, c ≠ 78 → w4 c = v c) ∧ hN78 (v 59) i0 (w4 78) ∧ czR (w4 78) 12 ≤ czR (w2 78) 12 ∧ (y4_3 ≠ 0 → czR (w4 78) 12 < czR (w2 78) 12) ∧ (y4_3 = 0 → (∀ x : Nat, x < i3 → ∀ y : Nat, (y : Int) < (v 45 2).toInt → hC (v 59) i0 (w4 78) x y) ∧ ∀ y : Nat, y < i4 → hC (v 59) i0 (w4 78) i3 y)) → W p l e (headSpec (Cond.code yX6_hangsOn cX6_hangsOn 6 (some .boolean) :: WW) ({ frames := 0, cells := 0, slots := 0, locals := 0 })).room s m ([.ref (a 45), .int p0, .int p1] : List Value).toArray below meth c H locs 0 0 Q (F0 m 44 ls []) := by
                      intro n
                      induction n with
                      | zero => intro i k y4_3 w4 H locs ls h1 h2; exact absurd h2 (by omega)
                      | succ n ih4 =>
                        intro i4 k4 y4_3 w4 H locs ls hi4 hin4 ek4 hP hS hl hB hJ4
                        refine lv_iload hx hb dX6_hangsOn_44 (lv_at hl 0 rfl) ?_
                        refine lv_aload_n hx hb dX6_hangsOn_46 rfl (lv_at hl 3 rfl) ?_
                        refine va_get (D := (dC, dI)) (ci := 6) (v := .int (w4 45 2)) (C := RX6) (T := TX6) (N := 43) hx hb hts (fun w h => List.mem_cons_of_mem _ (inWX6 w h)) hown hK hP 45 at_45 rfl 2 (by decide) (hts _ (List.mem_cons_of_mem _ kw_t3_43)) (fun _ h9 => h9) rfl dX6_hangsOn_47 ?_
                        refine lv_topi (fun t_8 et_8 => ?_)
                        have hsc_8 : 0 ≤ t_8.toInt ∧ t_8.toInt ≤ 12 := by rw [et_8]; exact hB.sc
                        refine lv_icmp_ge (tgt := 114) hx hb dX6_hangsOn_50 (by decide) (fun c_9 => ?_) (fun c_9 => ?_)
                        · have hxD : (v 45 2).toInt ≤ i4 := by have z := c_9; rw [Int32.le_iff_toInt_le, ek4, nI_toInt (by omega), et_8, hJ4.1 45 (by decide)] at z; exact z
                          obtain ⟨t_10, et_10⟩ : ∃ y : Int32, y = k3 + 1 := ⟨_, rfl⟩
                          refine lv_iinc (v := t_10) (lv' := [(4, .int t_10), (5, .int k4), (3, .int y4_3), (0, .ref (a 45)), (1, .int p0), (2, .int p1)]) hx hb dX6_hangsOn_114 hl (k := 1) rfl (by rw [et_10]; rfl) (by decide) rfl (fun ls hl => ?_)
                          refine lv_goto (tgt := 32) hx hb dX6_hangsOn_117 (by decide) ?_
                          exact ih3 (i3 + 1) t_10 y4_3 w4 _ _ _ (by omega) (by omega) (by rw [et_10, ek3]; exact nI_1 i3) hP hS (lv_sub hl [0, 2, 3, 4, 5] rfl) hB ⟨hJ4.1, hJ4.2.1, hJ4.2.2.1, hJ4.2.2.2.1, fun z x hx y hy => by by_cases h9 : x = i3; (obtain rfl : i3 = x := h9.symm; exact (hJ4.2.2.2.2 z).2 y (by have := hxD; omega)); exact (hJ4.2.2.2.2 z).1 x (by omega) y hy⟩
                        · refine lv_aload_n hx hb dX6_hangsOn_53 rfl (lv_at hl 3 rfl) ?_
                          refine va_get (D := (dC, dI)) (ci := 6) (v := .ref (a 59)) (C := RX6) (T := TX6) (N := 43) hx hb hts (fun w h => List.mem_cons_of_mem _ (inWX6 w h)) hown hK hP 45 at_45 rfl 22 (by decide) (hts _ (List.mem_cons_of_mem _ kw_t3_63)) (fun _ h9 => h9) rfl dX6_hangsOn_54 ?_
                          refine lv_bipush (v := 12) hx hb dX6_hangsOn_57 (by decide) ?_
                          refine lv_iload hx hb dX6_hangsOn_59 (lv_at hl 1 rfl) ?_
                          refine lv_imul hx hb dX6_hangsOn_61 ?_
                          refine lv_topi (fun t_11 et_11 => ?_)
                          refine lv_iload hx hb dX6_hangsOn_62 (lv_at hl 0 rfl) ?_
                          refine lv_iadd hx hb dX6_hangsOn_64 ?_
                          refine lv_topi (fun t_12 et_12 => ?_)
                          have hi_14 : i4 < 12 := kt_lt12 hsc_8 ek4 hi4 c_9
                          have hm_13 : t_12 = nI (12 * i3 + i4) := kt_mad (C := 12) rfl ek3 ek4 et_11 et_12
                          refine va_zald hx hb hK hP 59 1 at_59 rfl (kt_inN hm_13 (by omega) (by decide)) dX6_hangsOn_65 ?_
                          refine lv_topi (fun t_15 et_15 => ?_)
                          rw [hm_13, nI_clamp (by omega)] at et_15
                          refine lv_if_eq (tgt := 108) hx hb dX6_hangsOn_66 (by decide) (fun c_16 => ?_) (fun c_16 => ?_)
                          · obtain ⟨t_17, et_17⟩ : ∃ y : Int32, y = k4 + 1 := ⟨_, rfl⟩
                            refine lv_iinc (v := t_17) (lv' := [(5, .int t_17), (4, .int k3), (3, .int y4_3), (0, .ref (a 45)), (1, .int p0), (2, .int p1)]) hx hb dX6_hangsOn_108 hl (k := 0) rfl (by rw [et_17]; rfl) (by decide) rfl (fun ls hl => ?_)
                            refine lv_goto (tgt := 44) hx hb dX6_hangsOn_111 (by decide) ?_
                            exact ih4 (i4 + 1) t_17 y4_3 w4 _ _ _ (by omega) (by omega) (by rw [et_17, ek4]; exact nI_1 i4) hP hS (lv_sub hl [0, 1, 2, 3, 4, 5] rfl) hB ⟨hJ4.1, hJ4.2.1, hJ4.2.2.1, hJ4.2.2.2.1, fun z => ⟨(hJ4.2.2.2.2 z).1, fun y hy => by by_cases h9 : y = i4; (obtain rfl : i4 = y := h9.symm; exact (fun z1 => absurd ((show w4 59 (12 * i3 + i4) = v 59 (12 * i3 + i4) by rw [hJ4.1 59 (by decide)]).symm.trans (et_15.symm.trans c_16)) z1)); exact (hJ4.2.2.2.2 z).2 y (by omega)⟩⟩
                          · refine lv_iload hx hb dX6_hangsOn_69 (lv_at hl 1 rfl) ?_
                            refine lv_iload_n hx hb dX6_hangsOn_71 rfl (lv_at hl 4 rfl) ?_
                            refine lv_icmp_eq (tgt := 85) hx hb dX6_hangsOn_72 (by decide) (fun c_18 => ?_) (fun c_18 => ?_)
                            · refine lv_aload_n hx hb dX6_hangsOn_85 rfl (lv_at hl 3 rfl) ?_
                              refine va_get (D := (dC, dI)) (ci := 6) (v := .ref (a 78)) (C := RX6) (T := TX6) (N := 43) hx hb hts (fun w h => List.mem_cons_of_mem _ (inWX6 w h)) hown hK hP 45 at_45 rfl 41 (by decide) (hts _ (List.mem_cons_of_mem _ kw_t3_82)) (fun _ h9 => h9) rfl dX6_hangsOn_86 ?_
                              refine lv_iload hx hb dX6_hangsOn_89 (lv_at hl 0 rfl) ?_
                              refine va_zald hx hb hK hP 78 1 at_78 rfl (kt_inN ek4 (by omega) (by decide)) dX6_hangsOn_91 ?_
                              refine lv_topi (fun t_19 et_19 => ?_)
                              rw [ek4, nI_clamp (by omega)] at et_19
                              refine lv_if_eq (tgt := 98) hx hb dX6_hangsOn_92 (by decide) (fun c_20 => ?_) (fun c_20 => ?_)
                              · refine lv_aload_n hx hb dX6_hangsOn_98 rfl (lv_at hl 3 rfl) ?_
                                refine va_get (D := (dC, dI)) (ci := 6) (v := .ref (a 78)) (C := RX6) (T := TX6) (N := 43) hx hb hts (fun w h => List.mem_cons_of_mem _ (inWX6 w h)) hown hK hP 45 at_45 rfl 41 (by decide) (hts _ (List.mem_cons_of_mem _ kw_t3_82)) (fun _ h9 => h9) rfl dX6_hangsOn_99 ?_
                                refine lv_iload hx hb dX6_hangsOn_102 (lv_at hl 0 rfl) ?_
                                refine lv_iconst (v := 1) hx hb dX6_hangsOn_104 (by decide) ?_
                                refine va_zast hx hb hK hP (mD_of hD hAc) hS 78 1 at_78 rfl (kt_inN ek4 (by omega) (by decide)) dX6_hangsOn_105 (fun H locs hP _ hS => ?_)
                                obtain ⟨v_21, ev_21⟩ : ∃ z, z = mU w4 78 (upd (w4 78) i4 (vp_nar .boolean 1)) := ⟨_, rfl⟩
                                have hP : va_P (dC, dI) vwCl (mW cI cZ cS cC cJ a v_21) H := by rw [ev_21]; exact mW_put hP (by omega) (by rw [ek4, nI_clamp (by omega)]; rfl)
                                have hB := hB.put ev_21 (by decide)
                                refine lv_iconst (v := 1) hx hb dX6_hangsOn_106 (by decide) ?_
                                refine lv_istore_n (lv' := [(3, .int 1), (5, .int k4), (4, .int k3), (0, .ref (a 45)), (1, .int p0), (2, .int p1)]) hx hb dX6_hangsOn_107 rfl hl (by decide) rfl (fun ls hl => ?_)
                                obtain ⟨t_22, et_22⟩ : ∃ y : Int32, y = k4 + 1 := ⟨_, rfl⟩
                                refine lv_iinc (v := t_22) (lv' := [(5, .int t_22), (3, .int 1), (4, .int k3), (0, .ref (a 45)), (1, .int p0), (2, .int p1)]) hx hb dX6_hangsOn_108 hl (k := 1) rfl (by rw [et_22]; rfl) (by decide) rfl (fun ls hl => ?_)
                                refine lv_goto (tgt := 44) hx hb dX6_hangsOn_111 (by decide) ?_
                                exact ih4 (i4 + 1) t_22 1 v_21 _ _ _ (by omega) (by omega) (by rw [et_22, ek4]; exact nI_1 i4) hP hS (lv_sub hl [0, 2, 1, 3, 4, 5] rfl) hB ⟨(fun c hc => by rw [ev_21, mU_ne _ _ hc]; exact hJ4.1 c hc), by rw [ev_21, mU_self]; exact hJ4.2.1.set _ (hS_rch (by omega) (by omega) (fun z9 => c_16 (et_15.trans ((show w4 59 (12 * i3 + i4) = v 59 (12 * i3 + i4) by rw [hJ4.1 59 (by decide)]).trans z9))) (Or.inl ((nI_eq (by omega) (by omega)).mp (ek3.symm.trans (c_18.trans ei0))))), by rw [ev_21, mU_self]; have := czR_set (f := w4 78) (j := i4) (y := 1) (by decide) (et_19.symm.trans c_20) 12 (by omega); have := hJ4.2.2.1; show czR (upd (w4 78) i4 1) 12 ≤ _; omega, fun _ => by rw [ev_21, mU_self]; have := czR_set (f := w4 78) (j := i4) (y := 1) (by decide) (et_19.symm.trans c_20) 12 (by omega); have := hJ4.2.2.1; show czR (upd (w4 78) i4 1) 12 < _; omega, fun z => absurd z (by decide)⟩
                              · refine lv_goto (tgt := 108) hx hb dX6_hangsOn_95 (by decide) ?_
                                obtain ⟨t_23, et_23⟩ : ∃ y : Int32, y = k4 + 1 := ⟨_, rfl⟩
                                refine lv_iinc (v := t_23) (lv' := [(5, .int t_23), (4, .int k3), (3, .int y4_3), (0, .ref (a 45)), (1, .int p0), (2, .int p1)]) hx hb dX6_hangsOn_108 hl (k := 0) rfl (by rw [et_23]; rfl) (by decide) rfl (fun ls hl => ?_)
                                refine lv_goto (tgt := 44) hx hb dX6_hangsOn_111 (by decide) ?_
                                exact ih4 (i4 + 1) t_23 y4_3 w4 _ _ _ (by omega) (by omega) (by rw [et_23, ek4]; exact nI_1 i4) hP hS (lv_sub hl [0, 1, 2, 3, 4, 5] rfl) hB ⟨hJ4.1, hJ4.2.1, hJ4.2.2.1, hJ4.2.2.2.1, fun z => ⟨(hJ4.2.2.2.2 z).1, fun y hy => by by_cases h9 : y = i4; (obtain rfl : i4 = y := h9.symm; exact (fun _ _ z2 => c_20 (et_19.trans z2))); exact (hJ4.2.2.2.2 z).2 y (by omega)⟩⟩
                            · refine lv_aload_n hx hb dX6_hangsOn_75 rfl (lv_at hl 3 rfl) ?_
                              refine va_get (D := (dC, dI)) (ci := 6) (v := .ref (a 78)) (C := RX6) (T := TX6) (N := 43) hx hb hts (fun w h => List.mem_cons_of_mem _ (inWX6 w h)) hown hK hP 45 at_45 rfl 41 (by decide) (hts _ (List.mem_cons_of_mem _ kw_t3_82)) (fun _ h9 => h9) rfl dX6_hangsOn_76 ?_
                              refine lv_iload hx hb dX6_hangsOn_79 (lv_at hl 1 rfl) ?_
                              refine va_zald hx hb hK hP 78 1 at_78 rfl (kt_inN ek3 (by omega) (by decide)) dX6_hangsOn_81 ?_
                              refine lv_topi (fun t_24 et_24 => ?_)
                              rw [ek3, nI_clamp (by omega)] at et_24
                              refine lv_if_eq (tgt := 108) hx hb dX6_hangsOn_82 (by decide) (fun c_25 => ?_) (fun c_25 => ?_)
                              · obtain ⟨t_26, et_26⟩ : ∃ y : Int32, y = k4 + 1 := ⟨_, rfl⟩
                                refine lv_iinc (v := t_26) (lv' := [(5, .int t_26), (4, .int k3), (3, .int y4_3), (0, .ref (a 45)), (1, .int p0), (2, .int p1)]) hx hb dX6_hangsOn_108 hl (k := 0) rfl (by rw [et_26]; rfl) (by decide) rfl (fun ls hl => ?_)
                                refine lv_goto (tgt := 44) hx hb dX6_hangsOn_111 (by decide) ?_
                                exact ih4 (i4 + 1) t_26 y4_3 w4 _ _ _ (by omega) (by omega) (by rw [et_26, ek4]; exact nI_1 i4) hP hS (lv_sub hl [0, 1, 2, 3, 4, 5] rfl) hB ⟨hJ4.1, hJ4.2.1, hJ4.2.2.1, hJ4.2.2.2.1, fun z => ⟨(hJ4.2.2.2.2 z).1, fun y hy => by by_cases h9 : y = i4; (obtain rfl : i4 = y := h9.symm; exact (fun _ z1 => absurd z1 (by rintro (z2 | z2); (exact c_18 (by rw [ek3, z2, ei0])); exact z2 (et_24.symm.trans c_25)))); exact (hJ4.2.2.2.2 z).2 y (by omega)⟩⟩
                              · refine lv_aload_n hx hb dX6_hangsOn_85 rfl (lv_at hl 3 rfl) ?_
                                refine va_get (D := (dC, dI)) (ci := 6) (v := .ref (a 78)) (C := RX6) (T := TX6) (N := 43) hx hb hts (fun w h => List.mem_cons_of_mem _ (inWX6 w h)) hown hK hP 45 at_45 rfl 41 (by decide) (hts _ (List.mem_cons_of_mem _ kw_t3_82)) (fun _ h9 => h9) rfl dX6_hangsOn_86 ?_
                                refine lv_iload hx hb dX6_hangsOn_89 (lv_at hl 0 rfl) ?_
                                refine va_zald hx hb hK hP 78 1 at_78 rfl (kt_inN ek4 (by omega) (by decide)) dX6_hangsOn_91 ?_
                                refine lv_topi (fun t_27 et_27 => ?_)
                                rw [ek4, nI_clamp (by omega)] at et_27
                                refine lv_if_eq (tgt := 98) hx hb dX6_hangsOn_92 (by decide) (fun c_28 => ?_) (fun c_28 => ?_)
                                · refine lv_aload_n hx hb dX6_hangsOn_98 rfl (lv_at hl 3 rfl) ?_
                                  refine va_get (D := (dC, dI)) (ci := 6) (v := .ref (a 78)) (C := RX6) (T := TX6) (N := 43) hx hb hts (fun w h => List.mem_cons_of_mem _ (inWX6 w h)) hown hK hP 45 at_45 rfl 41 (by decide) (hts _ (List.mem_cons_of_mem _ kw_t3_82)) (fun _ h9 => h9) rfl dX6_hangsOn_99 ?_
                                  refine lv_iload hx hb dX6_hangsOn_102 (lv_at hl 0 rfl) ?_
                                  refine lv_iconst (v := 1) hx hb dX6_hangsOn_104 (by decide) ?_
                                  refine va_zast hx hb hK hP (mD_of hD hAc) hS 78 1 at_78 rfl (kt_inN ek4 (by omega) (by decide)) dX6_hangsOn_105 (fun H locs hP _ hS => ?_)
                                  obtain ⟨v_29, ev_29⟩ : ∃ z, z = mU w4 78 (upd (w4 78) i4 (vp_nar .boolean 1)) := ⟨_, rfl⟩
                                  have hP : va_P (dC, dI) vwCl (mW cI cZ cS cC cJ a v_29) H := by rw [ev_29]; exact mW_put hP (by omega) (by rw [ek4, nI_clamp (by omega)]; rfl)
                                  have hB := hB.put ev_29 (by decide)
                                  refine lv_iconst (v := 1) hx hb dX6_hangsOn_106 (by decide) ?_
                                  refine lv_istore_n (lv' := [(3, .int 1), (5, .int k4), (4, .int k3), (0, .ref (a 45)), (1, .int p0), (2, .int p1)]) hx hb dX6_hangsOn_107 rfl hl (by decide) rfl (fun ls hl => ?_)
                                  obtain ⟨t_30, et_30⟩ : ∃ y : Int32, y = k4 + 1 := ⟨_, rfl⟩
                                  refine lv_iinc (v := t_30) (lv' := [(5, .int t_30), (3, .int 1), (4, .int k3), (0, .ref (a 45)), (1, .int p0), (2, .int p1)]) hx hb dX6_hangsOn_108 hl (k := 1) rfl (by rw [et_30]; rfl) (by decide) rfl (fun ls hl => ?_)
                                  refine lv_goto (tgt := 44) hx hb dX6_hangsOn_111 (by decide) ?_
                                  exact ih4 (i4 + 1) t_30 1 v_29 _ _ _ (by omega) (by omega) (by rw [et_30, ek4]; exact nI_1 i4) hP hS (lv_sub hl [0, 2, 1, 3, 4, 5] rfl) hB ⟨(fun c hc => by rw [ev_29, mU_ne _ _ hc]; exact hJ4.1 c hc), by rw [ev_29, mU_self]; exact hJ4.2.1.set _ (hS_rch (by omega) (by omega) (fun z9 => c_16 (et_15.trans ((show w4 59 (12 * i3 + i4) = v 59 (12 * i3 + i4) by rw [hJ4.1 59 (by decide)]).trans z9))) (Or.inr ((hJ4.2.1 i3 (by omega)).resolve_left (fun z9 => c_25 (et_24.trans z9))).2)), by rw [ev_29, mU_self]; have := czR_set (f := w4 78) (j := i4) (y := 1) (by decide) (et_27.symm.trans c_28) 12 (by omega); have := hJ4.2.2.1; show czR (upd (w4 78) i4 1) 12 ≤ _; omega, fun _ => by rw [ev_29, mU_self]; have := czR_set (f := w4 78) (j := i4) (y := 1) (by decide) (et_27.symm.trans c_28) 12 (by omega); have := hJ4.2.2.1; show czR (upd (w4 78) i4 1) 12 < _; omega, fun z => absurd z (by decide)⟩
                                · refine lv_goto (tgt := 108) hx hb dX6_hangsOn_95 (by decide) ?_
                                  obtain ⟨t_31, et_31⟩ : ∃ y : Int32, y = k4 + 1 := ⟨_, rfl⟩
                                  refine lv_iinc (v := t_31) (lv' := [(5, .int t_31), (4, .int k3), (3, .int y4_3), (0, .ref (a 45)), (1, .int p0), (2, .int p1)]) hx hb dX6_hangsOn_108 hl (k := 0) rfl (by rw [et_31]; rfl) (by decide) rfl (fun ls hl => ?_)
                                  refine lv_goto (tgt := 44) hx hb dX6_hangsOn_111 (by decide) ?_
                                  exact ih4 (i4 + 1) t_31 y4_3 w4 _ _ _ (by omega) (by omega) (by rw [et_31, ek4]; exact nI_1 i4) hP hS (lv_sub hl [0, 1, 2, 3, 4, 5] rfl) hB ⟨hJ4.1, hJ4.2.1, hJ4.2.2.1, hJ4.2.2.2.1, fun z => ⟨(hJ4.2.2.2.2 z).1, fun y hy => by by_cases h9 : y = i4; (obtain rfl : i4 = y := h9.symm; exact (fun _ _ z2 => c_28 (et_27.trans z2))); exact (hJ4.2.2.2.2 z).2 y (by omega)⟩⟩
                    exact key4 (12 + 1) 0 0 y3_3 w3 _ _ _ (Nat.zero_le _) (by omega) rfl hP hS (lv_sub hl [0, 1, 2, 3, 4, 5] rfl) hB ⟨hJ3.1, hJ3.2.1, hJ3.2.2.1, hJ3.2.2.2.1, fun z => ⟨hJ3.2.2.2.2 z, fun y hy => absurd hy (by omega)⟩⟩
              exact key3 (12 + 1) 0 0 0 w2 _ _ _ (Nat.zero_le _) (by omega) rfl hP hS (lv_sub hl [0, 1, 2, 3, 4] rfl) hB ⟨hJ2.1, hJ2.2.1, Nat.le_refl _, fun z => absurd rfl z, fun _ x hx => absurd hx (by omega)⟩
        exact key2 _ 1 w1 _ _ _ (Nat.lt_succ_self _) hP hS (lv_sub hl [0, 1, 2, 3] rfl) hB ⟨hJ1.1, fun x hx => Or.inl (hJ1.2 x (by have := hxA; omega)), fun z => absurd z (by decide)⟩
      · refine lv_aload_n hx hb dX6_hangsOn_8 rfl (lv_at hl 1 rfl) ?_
        refine va_get (D := (dC, dI)) (ci := 6) (v := .ref (a 78)) (C := RX6) (T := TX6) (N := 43) hx hb hts (fun w h => List.mem_cons_of_mem _ (inWX6 w h)) hown hK hP 45 at_45 rfl 41 (by decide) (hts _ (List.mem_cons_of_mem _ kw_t3_82)) (fun _ h9 => h9) rfl dX6_hangsOn_9 ?_
        refine lv_iload_n hx hb dX6_hangsOn_12 rfl (lv_at hl 0 rfl) ?_
        refine lv_iconst (v := 0) hx hb dX6_hangsOn_13 (by decide) ?_
        have hi_32 : i1 < 12 := kt_lt (N := 12) rfl (by decide) ek1 hi1 c_1
        refine va_zast hx hb hK hP (mD_of hD hAc) hS 78 1 at_78 rfl (kt_inN ek1 (by omega) (by decide)) dX6_hangsOn_14 (fun H locs hP _ hS => ?_)
        obtain ⟨v_33, ev_33⟩ : ∃ z, z = mU w1 78 (upd (w1 78) i1 (vp_nar .boolean 0)) := ⟨_, rfl⟩
        have hP : va_P (dC, dI) vwCl (mW cI cZ cS cC cJ a v_33) H := by rw [ev_33]; exact mW_put hP (by omega) (by rw [ek1, nI_clamp (by omega)]; rfl)
        have hB := hB.put ev_33 (by decide)
        obtain ⟨t_34, et_34⟩ : ∃ y : Int32, y = k1 + 1 := ⟨_, rfl⟩
        refine lv_iinc (v := t_34) (lv' := [(3, .int t_34), (0, .ref (a 45)), (1, .int p0), (2, .int p1)]) hx hb dX6_hangsOn_15 hl (k := 0) rfl (by rw [et_34]; rfl) (by decide) rfl (fun ls hl => ?_)
        refine lv_goto (tgt := 2) hx hb dX6_hangsOn_18 (by decide) ?_
        exact ih1 (i1 + 1) t_34 v_33 _ _ _ (by omega) (by omega) (by rw [et_34, ek1]; exact nI_1 i1) hP hS (lv_sub hl [0, 1, 2, 3] rfl) hB ⟨(fun c hc => by rw [ev_33, mU_ne _ _ hc]; exact hJ1.1 c hc), fun x hx => by rw [ev_33, mU_self]; by_cases z : x = i1; (simp only [upd, if_pos z]; rfl); simp only [upd, if_neg z]; exact hJ1.2 x (by omega)⟩
  exact key1 (12 + 1) 0 0 v _ _ _ (Nat.zero_le _) (by omega) rfl hP hS (lv_sub hl [0, 1, 2, 3] rfl) hB ⟨fun _ _ => rfl, fun x hx => absurd hx (by omega)⟩
