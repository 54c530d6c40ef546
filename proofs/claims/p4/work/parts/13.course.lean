set_option maxHeartbeats 4000000 in
set_option maxRecDepth 100000 in
theorem c_X0_write (l : Launch) (dC : Nat → ClassId) (dI : Nat → Nat → Nat) (cI cZ cS cC : ClassId) (h0 sz : Nat) (qa : Nat → Nat) (a0 : Nat) (a1 : Nat) (x0 : Int32) (x1 : Int32) (x2 : Int32) (x3 : Int32) (x4 : Int32) (x5 : Int32) (x6 : Int32) (fa : Nat → Int32) (pp : Nat) (de : Nat) (db : Int32) (fd : Nat → Int32) (p0 p1 : Int32) : Met l yX0_write (Cond.code yX0_write cX0_write 5 none :: WW) ({ frames := 1, cells := 0, slots := 0, locals := 30 }) (va_Pc [.ref h0, .int p0, .int p1, .ref pp] (fun U => U.heap.size = sz ∧ va_P (dC, dI) vwCl [(h0, .inr (0, [.ref a0, .ref a1, .int x0, .int x1, .int x2, .int x3, .int x4, .int x5, .int x6])), (a1, .inl (cI, 16, .inl fa)), (pp, .inr (2, [.ref de, .int db])), (de, .inl (cI, 16, .inl fd))] U.heap ∧ va_K (dC, dI) vwCl [(cI, .int), (cZ, .boolean), (cS, .object RX3), (cC, .object RX0)] U ∧ va_D (fun _ => True) [(h0, .inr (0, [.ref a0, .ref a1, .int x0, .int x1, .int x2, .int x3, .int x4, .int x5, .int x6])), (a1, .inl (cI, 16, .inl fa)), (pp, .inr (2, [.ref de, .int db])), (de, .inl (cI, 16, .inl fd))] ∧ va_Nw (.methodLinkNest RX0 67 yX5_isIn RX5) U)) (va_Qv (fun (_ : Int32 × (Nat → Int32)) => True) (fun (u : Int32 × (Nat → Int32)) (t : State) => va_P (dC, dI) vwCl [(h0, .inr (0, [.ref a0, .ref a1, .int u.1, .int x1, .int x2, .int x3, .int x4, .int x5, .int x6])), (a1, .inl (cI, 16, .inl u.2)), (pp, .inr (2, [.ref de, .int db])), (de, .inl (cI, 16, .inl fd))] t.heap ∧ va_K (dC, dI) vwCl [(cI, .int), (cZ, .boolean), (cS, .object RX3), (cC, .object RX0)] t ∧ va_D (va_A [(h0, .inr (0, [.ref a0, .ref a1, .int x0, .int x1, .int x2, .int x3, .int x4, .int x5, .int x6])), (a1, .inl (cI, 16, .inl fa)), (pp, .inr (2, [.ref de, .int db])), (de, .inl (cI, 16, .inl fd))] sz) [(h0, .inr (0, [.ref a0, .ref a1, .int u.1, .int x1, .int x2, .int x3, .int x4, .int x5, .int x6])), (a1, .inl (cI, 16, .inl u.2)), (pp, .inr (2, [.ref de, .int db])), (de, .inl (cI, 16, .inl fd))]) (va_A [(h0, .inr (0, [.ref a0, .ref a1, .int x0, .int x1, .int x2, .int x3, .int x4, .int x5, .int x6])), (a1, .inl (cI, 16, .inl fa)), (pp, .inr (2, [.ref de, .int db])), (de, .inl (cI, 16, .inl fd))] sz)) 0 0 (va_A [(h0, .inr (0, [.ref a0, .ref a1, .int x0, .int x1, .int x2, .int x3, .int x4, .int x5, .int x6])), (a1, .inl (cI, 16, .inl fa)), (pp, .inr (2, [.ref de, .int db])), (de, .inl (cI, 16, .inl fd))] sz) := by
  refine Met.ofW (cc := cX0_write) (maxL := 5) (ret := none) (by decide) rfl ?_
  intro p e s m args below meth c s₁ B hml hv
  obtain ⟨rfl, hsz, hP, hK, hD0, hE0⟩ := hv
  have hx := B.exec
  have hb := B.bytes
  have hr := B.returns
  have hts := atoms_spec (ws := Cond.code yX0_write cX0_write 5 none :: WW) B.pre
  have hown : s.vm.findClass RX0 = some m.cls := findClass_of_methodNamed B.named
  have hlocks := B.notSynchronized
  subst hsz
  have hD := hD0.self (sz := s.heap.size)
  generalize hAe : va_A [(h0, .inr (0, [.ref a0, .ref a1, .int x0, .int x1, .int x2, .int x3, .int x4, .int x5, .int x6])), (a1, .inl (cI, 16, .inl fa)), (pp, .inr (2, [.ref de, .int db])), (de, .inl (cI, 16, .inl fd))] s.heap.size = A at hD ⊢
  have hA : ∀ q : Nat, s.heap.size ≤ q → A q := fun q h => by rw [← hAe]; exact Or.inr h
  have hS : va_S A s.heap s.heap [] := va_S.rf
  have hP : va_P (dC, dI) vwCl [(h0, .inr (0, [.ref a0, .ref a1, .int x0, .int x1, .int x2, .int x3, .int x4, .int x5, .int x6])), (a1, .inl (cI, 16, .inl fa)), (pp, .inr (2, [.ref de, .int db])), (de, .inl (cI, 16, .inl fd))] s.heap := hP
  have hl := lv_entry ([.ref h0, .int p0, .int p1, .ref pp]) (n := 5) (Nat.le_of_ble_eq_true rfl)
  rw [lg_entry_eq]
  generalize (lg_sl ([.ref h0, .int p0, .int p1, .ref pp]) ++ List.replicate (5 - (lg_sl ([.ref h0, .int p0, .int p1, .ref pp])).length) Slot.unset).toArray = ls at hl ⊢
  have hl : lv_has ls 5 [(0, .ref h0), (1, .int p0), (2, .int p1), (3, .ref pp)] := hl
  have hN_67 := hE0
  refine kt_absQ (fun Q hQ => ?_)
  refine lv_iconst (v := 0) hx hb dX0_write_0 (by decide) ?_
  refine lv_istore (lv' := [(4, .int 0), (0, .ref h0), (1, .int p0), (2, .int p1), (3, .ref pp)]) hx hb dX0_write_1 hl (by decide) rfl (fun ls hl => ?_)
  have key : ∀ (n i : Nat) (k : Int32) (g0 : Nat → Int32) (H : Heap) (locs : List Loc) (ls : Array Slot), i ≤ 16 → 16 - i < n → k = nI i → va_P (dC, dI) vwCl [(h0, .inr (0, [.ref a0, .ref a1, .int x0, .int x1, .int x2, .int x3, .int x4, .int x5, .int x6])), (a1, .inl (cI, 16, .inl g0)), (pp, .inr (2, [.ref de, .int db])), (de, .inl (cI, 16, .inl fd))] H → va_D A [(h0, .inr (0, [.ref a0, .ref a1, .int x0, .int x1, .int x2, .int x3, .int x4, .int x5, .int x6])), (a1, .inl (cI, 16, .inl g0)), (pp, .inr (2, [.ref de, .int db])), (de, .inl (cI, 16, .inl fd))] → va_S A s.heap H locs → lv_has ls 5 [(4, .int k), (0, .ref h0), (1, .int p0), (2, .int p1), (3, .ref pp)] → W p l e (headSpec (Cond.code yX0_write cX0_write 5 none :: WW) ({ frames := 1, cells := 0, slots := 0, locals := 30 })).room s m ([.ref h0, .int p0, .int p1, .ref pp] : List Value).toArray below meth c H locs 0 0 Q (F0 m 3 ls []) := by
    intro n
    induction n with
    | zero => intro i k g0 H locs ls h1 h2; exact absurd h2 (by omega)
    | succ n ih =>
      intro i k g0 H locs ls hi hin ek hP hD hS hl
      refine lv_iload hx hb dX0_write_3 (lv_at hl 0 rfl) ?_
      refine lv_bipush (v := 16) hx hb dX0_write_5 (by decide) ?_
      refine lv_icmp_ge (tgt := 45) hx hb dX0_write_7 (by decide) (fun c_1 => ?_) (fun c_1 => ?_)
      · refine lv_aload_n hx hb dX0_write_45 rfl (lv_at hl 1 rfl) ?_
        refine lv_dup hx hb dX0_write_46 rfl ?_
        refine va_get (D := (dC, dI)) (ci := 0) (v := .int x0) (C := RX0) (T := TX0) (N := 9) hx hb hts (fun w h => List.mem_cons_of_mem _ (inWX0 w h)) hown hK hP 0 rfl rfl 2 (by decide) (hts _ (List.mem_cons_of_mem _ kw_t1_127)) (fun _ h9 => h9) rfl dX0_write_47 ?_
        refine lv_iload_n hx hb dX0_write_50 rfl (lv_at hl 2 rfl) ?_
        refine lv_ior hx hb dX0_write_51 ?_
        refine lv_topi (fun t_2 et_2 => ?_)
        refine va_put (D := (dC, dI)) (ci := 0) (v := .int t_2) (ty := .int) (C := RX0) (T := TX0) (N := 9) hx hb hts (fun w h => List.mem_cons_of_mem _ (inWX0 w h)) tyX0 tyX0_ok nmX0 hown hK hP hD hS 0 rfl rfl 2 (by decide) (hts _ (List.mem_cons_of_mem _ kw_t1_127)) (fun _ h9 => h9) rfl (by decide +kernel) rfl rfl (Nat.le_of_ble_eq_true rfl) dX0_write_52 (fun H locs hP hD hS => ?_)
        have hP : va_P (dC, dI) vwCl [(h0, .inr (0, [.ref a0, .ref a1, .int t_2, .int x1, .int x2, .int x3, .int x4, .int x5, .int x6])), (a1, .inl (cI, 16, .inl g0)), (pp, .inr (2, [.ref de, .int db])), (de, .inl (cI, 16, .inl fd))] H := hP
        have hD : va_D A [(h0, .inr (0, [.ref a0, .ref a1, .int t_2, .int x1, .int x2, .int x3, .int x4, .int x5, .int x6])), (a1, .inl (cI, 16, .inl g0)), (pp, .inr (2, [.ref de, .int db])), (de, .inl (cI, 16, .inl fd))] := hD
        rw [hQ]
        exact W.vret hx hb hr (fun t ht hW => ⟨⟨(t_2, g0), rfl, trivial, ⟨by rw [ht]; exact hP, va_K.moved hW.alike hK, hD⟩⟩, hS.F ht⟩) hS.2.2 dX0_write_55
      · refine lv_iload_n hx hb dX0_write_10 rfl (lv_at hl 2 rfl) ?_
        refine lv_iload hx hb dX0_write_11 (lv_at hl 0 rfl) ?_
        have hPc := hP.sub (ws' := []) [] rfl
        have hDc := hD.sub (ws' := []) [] (by decide) rfl
        have hFc : ∀ q, va_A ([] : va_W) H.size q → A q := va_free (wc := []) (ws := []) kt_D0 hS hA [] rfl
        refine va_calli (va_runSN (As := [.int p0, .int k]) (rest := []) ⟨hx, hb, hml, hown, hts⟩ (c_X5_isIn l dC dI cI cZ cS cC 0 H.size (fun _ => 0) p0 k) ⟨va_cnB 2 hts (gI (fun w h => List.mem_cons_of_mem _ h) kw_t1_213) rfl rfl rfl hN_67 (hts _ (List.mem_cons_of_mem _ kw_t1_1)) (by decide +kernel) ⟨Nat.le_of_ble_eq_true rfl, Nat.le_of_ble_eq_true rfl⟩, (hts _ (List.mem_cons_of_mem _ kw_t1_212)), trivial⟩ ⟨fun a U g mk q => by obtain ⟨q0, q1, qP, qK, qD⟩ := q; exact ⟨q0, q1, qP, va_K.moved (u := U) (U := U.calling g mk a) (Vm.Alike.refl U.vm) qK, qD⟩, fun U hU hW => ⟨rfl, by rw [hU], by rw [hU]; exact hPc, va_K.moved hW.alike hK, hDc.weaken (fun _ _ _ _ => trivial)⟩⟩ rfl rfl hl.1 rfl (lv_room (Nat.le_of_ble_eq_true rfl)) dX0_write_13 ⟨Nat.le_of_ble_eq_true rfl, Nat.le_of_ble_eq_true rfl⟩) hS (fun q _ h => hFc q h) hFc (fun r_3 u_3 t H1 locs ht hvm hw_3 hB hz1 hk1 hS => ?_)
        obtain ⟨hP, hD⟩ := va_join (wc := []) (wr := [(h0, .inr (0, [.ref a0, .ref a1, .int x0, .int x1, .int x2, .int x3, .int x4, .int x5, .int x6])), (a1, .inl (cI, 16, .inl g0)), (pp, .inr (2, [.ref de, .int db])), (de, .inl (cI, 16, .inl fd))]) (w1 := []) hP hD [] [0, 1, 2, 3] rfl rfl (by decide) (by decide) hk1 hFc kt_P0 kt_D0
        generalize H1 = H at hP hS ⊢
        have hP : va_P (dC, dI) vwCl [(h0, .inr (0, [.ref a0, .ref a1, .int x0, .int x1, .int x2, .int x3, .int x4, .int x5, .int x6])), (a1, .inl (cI, 16, .inl g0)), (pp, .inr (2, [.ref de, .int db])), (de, .inl (cI, 16, .inl fd))] H := hP
        have hD : va_D A [(h0, .inr (0, [.ref a0, .ref a1, .int x0, .int x1, .int x2, .int x3, .int x4, .int x5, .int x6])), (a1, .inl (cI, 16, .inl g0)), (pp, .inr (2, [.ref de, .int db])), (de, .inl (cI, 16, .inl fd))] := hD
        rcases hw_3 with hw_3h | hw_3h
        · subst hw_3h
          refine lv_if_eq (tgt := 39) hx hb dX0_write_16 (by decide) (fun c_4 => ?_) (fun c_4 => absurd (by decide) c_4)
          obtain ⟨t_5, et_5⟩ : ∃ y : Int32, y = k + 1 := ⟨_, rfl⟩
          refine lv_iinc (v := t_5) (lv' := [(4, .int t_5), (0, .ref h0), (1, .int p0), (2, .int p1), (3, .ref pp)]) hx hb dX0_write_39 hl (k := 0) rfl (by rw [et_5]; rfl) (by decide) rfl (fun ls hl => ?_)
          refine lv_goto (tgt := 3) hx hb dX0_write_42 (by decide) ?_
          exact ih (i + 1) t_5 g0 _ _ _ (kt_lt (N := 16) rfl (by decide) ek hi c_1) (by have := kt_lt (N := 16) rfl (by decide) ek hi c_1; omega) (by rw [et_5, ek]; exact nI_1 i) hP hD hS (lv_sub hl [0, 1, 2, 3, 4] rfl)
        · subst hw_3h
          refine lv_if_eq (tgt := 39) hx hb dX0_write_16 (by decide) (fun c_6 => absurd c_6 (by decide)) (fun c_6 => ?_)
          refine lv_aload_n hx hb dX0_write_19 rfl (lv_at hl 1 rfl) ?_
          refine va_get (D := (dC, dI)) (ci := 0) (v := .ref a1) (C := RX0) (T := TX0) (N := 9) hx hb hts (fun w h => List.mem_cons_of_mem _ (inWX0 w h)) hown hK hP 0 rfl rfl 1 (by decide) (hts _ (List.mem_cons_of_mem _ kw_t1_126)) (fun _ h9 => h9) rfl dX0_write_20 ?_
          refine lv_iload hx hb dX0_write_23 (lv_at hl 0 rfl) ?_
          refine lv_iload_n hx hb dX0_write_25 rfl (lv_at hl 3 rfl) ?_
          refine lv_iconst (v := 1) hx hb dX0_write_26 (by decide) ?_
          refine lv_aload_n hx hb dX0_write_27 rfl (lv_at hl 4 rfl) ?_
          refine va_get (D := (dC, dI)) (ci := 2) (v := .ref de) (C := RX2) (T := TX2) (N := 2) hx hb hts (fun w h => List.mem_cons_of_mem _ (inWX2 w h)) hown hK hP 2 rfl rfl 0 (by decide) (hts _ (List.mem_cons_of_mem _ kw_t1_46)) (fun _ h9 => h9) rfl dX0_write_28 ?_
          refine lv_iload hx hb dX0_write_31 (lv_at hl 0 rfl) ?_
          refine va_iald hx hb hK hP 3 0 rfl rfl (kt_inl (N := 16) rfl (by decide) ek hi c_1) dX0_write_33 ?_
          refine lv_topi (fun t_7 et_7 => ?_)
          refine va_mmax hx hb (hml.trans hl.1.symm) hown (hts _ (List.mem_cons_of_mem _ kw_t2_39)) (hts _ (List.mem_cons_of_mem _ kw_t2_40)) (hts _ (List.mem_cons_of_mem _ kw_t1_8)) (hts _ (List.mem_cons_of_mem _ kw_t2_41)) (Nat.le_of_ble_eq_true rfl) (Nat.le_of_ble_eq_true rfl) (Nat.zero_le _) (Nat.zero_le _) dX0_write_34 ?_
          refine lv_topi (fun t_8 et_8 => ?_)
          refine lv_iadd hx hb dX0_write_37 ?_
          refine lv_topi (fun t_9 et_9 => ?_)
          refine va_iast hx hb hK hP hD hS 1 0 rfl rfl (kt_inl (N := 16) rfl (by decide) ek hi c_1) dX0_write_38 (fun H locs hP hD hS => ?_)
          obtain ⟨f_10, ef_10⟩ : ∃ f : Nat → Int32, f = upd g0 (k : Int32).toNatClampNeg (t_9) := ⟨_, rfl⟩
          have hP : va_P (dC, dI) vwCl [(h0, .inr (0, [.ref a0, .ref a1, .int x0, .int x1, .int x2, .int x3, .int x4, .int x5, .int x6])), (a1, .inl (cI, 16, .inl f_10)), (pp, .inr (2, [.ref de, .int db])), (de, .inl (cI, 16, .inl fd))] H := by rw [ef_10]; exact hP
          have hD : va_D A [(h0, .inr (0, [.ref a0, .ref a1, .int x0, .int x1, .int x2, .int x3, .int x4, .int x5, .int x6])), (a1, .inl (cI, 16, .inl f_10)), (pp, .inr (2, [.ref de, .int db])), (de, .inl (cI, 16, .inl fd))] := by rw [ef_10]; exact hD
          clear ef_10
          obtain ⟨t_11, et_11⟩ : ∃ y : Int32, y = k + 1 := ⟨_, rfl⟩
          refine lv_iinc (v := t_11) (lv' := [(4, .int t_11), (0, .ref h0), (1, .int p0), (2, .int p1), (3, .ref pp)]) hx hb dX0_write_39 hl (k := 0) rfl (by rw [et_11]; rfl) (by decide) rfl (fun ls hl => ?_)
          refine lv_goto (tgt := 3) hx hb dX0_write_42 (by decide) ?_
          exact ih (i + 1) t_11 f_10 _ _ _ (kt_lt (N := 16) rfl (by decide) ek hi c_1) (by have := kt_lt (N := 16) rfl (by decide) ek hi c_1; omega) (by rw [et_11, ek]; exact nI_1 i) hP hD hS (lv_sub hl [0, 1, 2, 3, 4] rfl)
  exact key 17 0 0 fa _ _ _ (Nat.zero_le _) (by omega) rfl hP hD hS hl
