set_option maxHeartbeats 4000000 in
set_option maxRecDepth 100000 in
theorem whole_start {p : Program} {e : Env} {s : State} {m : MethodId} {below : List Frame} {meth : Method} {c : Code} (l : Launch) (hT : l.stackTraces = false) {b L : Nat} {xs : Nat → Int32} (hL : L ≤ 5) (C0 : lw_At p s m meth c b L xs) : W p l e room_1 s m #[Value.ref b] below meth c s.heap [] 0 0 (lw_Z below #[Value.ref b] s) (entryFrame m ([Value.ref b] : List Value).toArray 7) := by
  obtain ⟨hx, hb, hr, hml, hown, hts0, hX, hbl, hlocks, hgv⟩ := id C0
  have hts : ∀ w ∈ WW, w.before #[Value.ref b] s = true := fun w h => hts0 w (ww_tbl w h)
  have hA : ∀ q : Nat, s.heap.size ≤ q → (fun q : Nat => s.heap.size ≤ q) q := fun _ h => h
  have hbA : ¬ (fun q : Nat => s.heap.size ≤ q) b := Nat.not_le.mpr hbl
  obtain ⟨c0, iS0, hKn0⟩ := u_known (C := RX0) (T := TX0) (N := 9) (n := 9) hts inWX0 (hts _ kw_145)
  obtain ⟨c1, iS1, hKn1⟩ := u_known (C := RX1) (T := TX1) (N := 2) (n := 2) hts inWX1 (hts _ kw_141)
  obtain ⟨c2, iS2, hKn2⟩ := u_known (C := RX2) (T := TX2) (N := 2) (n := 2) hts inWX2 (hts _ kw_136)
  obtain ⟨c3, iS3, hKn3⟩ := u_known (C := RX3) (T := TX3) (N := 10) (n := 10) hts inWX3 (hts _ kw_106)
  obtain ⟨c4, iS4, hKn4⟩ := u_known (C := RX4) (T := TX4) (N := 1) (n := 1) hts inWX4 (hts _ kw_130)
  obtain ⟨c5, iS5, hKn5⟩ := u_known (C := RX5) (T := TX5) (N := 11) (n := 11) hts inWX5 (hts _ kw_230)
  obtain ⟨c6, iS6, hKn6⟩ := u_known (C := RX6) (T := TX6) (N := 43) (n := 43) hts inWX6 (hts _ kw_231)
  obtain ⟨dC, dI, hKc⟩ : ∃ (dC : Nat → ClassId) (dI : Nat → Nat → Nat), ∀ (k : Nat) (q : vw_C), vwCl[k]? = some q → u_Kn s q.1 q.2.1 q.2.2 (dC k) (dI k) := by
    refine ⟨fun k => if k = 0 then c0 else if k = 1 then c1 else if k = 2 then c2 else if k = 3 then c3 else if k = 4 then c4 else if k = 5 then c5 else c6, fun k => if k = 0 then iS0 else if k = 1 then iS1 else if k = 2 then iS2 else if k = 3 then iS3 else if k = 4 then iS4 else if k = 5 then iS5 else iS6, ?_⟩
    intro k q hq
    match k, hq with
    | 0, hq => cases hq; exact hKn0
    | 1, hq => cases hq; exact hKn1
    | 2, hq => cases hq; exact hKn2
    | 3, hq => cases hq; exact hKn3
    | 4, hq => cases hq; exact hKn4
    | 5, hq => cases hq; exact hKn5
    | 6, hq => cases hq; exact hKn6
    | k + 7, hq => simp [vwCl] at hq
  obtain ⟨cI, hcI⟩ := kt_arr (ty := .int) (fun _ h => by cases h) (hts _ kw_110)
  obtain ⟨cZ, hcZ⟩ := kt_arr (ty := .boolean) (fun _ h => by cases h) (hts _ kw_158)
  have hAOX3 : va_AO RX3 s := va_AO.of (hts0 (.arrayOver (.object RX3)) (tb1 (List.mem_of_getElem? (i := 23) rfl)))
  have hAOX0 : va_AO RX0 s := va_AO.of (hts0 (.arrayOver (.object RX0)) (tb1 (List.mem_of_getElem? (i := 25) rfl)))
  obtain ⟨cS, hcS⟩ := kt_arrq (va_AO.use (A := #[Value.ref b]) hAOX3)
  obtain ⟨cC, hcC⟩ := kt_arrq (va_AO.use (A := #[Value.ref b]) hAOX0)
  have hN_23 : va_Nw (.methodLinkNest RX5 23 yX4_init RX5) s := va_Nw.of rfl (hts0 (.methodLinkNest RX5 23 yX4_init RX5) (tb1 (List.mem_of_getElem? (i := 28) rfl)))
  have hN_37 : va_Nw (.methodLinkNest RX5 37 yX1_init RX5) s := va_Nw.of rfl (hts0 (.methodLinkNest RX5 37 yX1_init RX5) (tb1 (List.mem_of_getElem? (i := 56) rfl)))
  have hN_61 : va_Nw (.methodLinkNest RX5 61 yX0_init RX5) s := va_Nw.of rfl (hts0 (.methodLinkNest RX5 61 yX0_init RX5) (tb1 (List.mem_of_getElem? (i := 70) rfl)))
  have hN_11 : va_Nw (.methodLinkNest RX0 11 yX3_init RX5) s := va_Nw.of rfl (hts0 (.methodLinkNest RX0 11 yX3_init RX5) (tb1 (List.mem_of_getElem? (i := 76) rfl)))
  have hflat := flat_of_before _ hgv
  obtain ⟨sa, c_s, cell_s, k_s, hsa, -⟩ := Cond.exactly_spec (hflat (.exactly (.string "KeyTurner" 191) "java/lang/String") (by decide +kernel))
  have hRs : vk_R RX5 191 exT sa s := vk_R.of (A := #[Value.ref b]) (hts0 (.stringRef RX5 191 exT) (tb3 (List.mem_of_getElem? (i := 8) rfl))) hsa
  have hU0 : exU s := ⟨va_Nw.of rfl (hts0 (Cond.castable "java/util/NoSuchElementException" "java/util/NoSuchElementException") (tb2 (List.mem_of_getElem? (i := 211) rfl))), va_Nw.of rfl (hts0 (Cond.declares (⟨"java/lang/RuntimeException", "<init>", "(Ljava/lang/String;)V"⟩ : MethodName)) (tb2 (List.mem_of_getElem? (i := 213) rfl))), va_Nw.of rfl (hts0 (Cond.declares (⟨"java/lang/Exception", "<init>", "(Ljava/lang/String;)V"⟩ : MethodName)) (tb2 (List.mem_of_getElem? (i := 215) rfl))), va_Nw.of rfl (hts0 (Cond.declares (⟨"java/lang/Throwable", "<init>", "(Ljava/lang/String;)V"⟩ : MethodName)) (tb2 (List.mem_of_getElem? (i := 217) rfl)))⟩
  have hZ1 : vx_Zq Bundle.tN "UNASSIGNED_STACK" Bundle.steD (fun q : Nat => s.heap.size ≤ q) s s.heap := vx_Zqof (hts0 (Cond.laysStatic "java/lang/Throwable" "UNASSIGNED_STACK" "[Ljava/lang/StackTraceElement;") (tb2 (List.mem_of_getElem? (i := 236) rfl))) (hts0 (Cond.initialized "java/lang/Throwable") (tb1 (List.mem_of_getElem? (i := 10) rfl))) (hflat (.isRef (.static "java/lang/Throwable" "UNASSIGNED_STACK" "[Ljava/lang/StackTraceElement;")) (by decide +kernel)) (fun a h1 h2 => absurd h1 (Nat.not_lt.mpr h2))
  have hZ2 : vx_Zq Bundle.tN "SUPPRESSED_SENTINEL" Bundle.listD (fun q : Nat => s.heap.size ≤ q) s s.heap := vx_Zqof (hts0 (Cond.laysStatic "java/lang/Throwable" "SUPPRESSED_SENTINEL" "Ljava/util/List;") (tb2 (List.mem_of_getElem? (i := 238) rfl))) (hts0 (Cond.initialized "java/lang/Throwable") (tb1 (List.mem_of_getElem? (i := 10) rfl))) (hflat (.isRef (.static "java/lang/Throwable" "SUPPRESSED_SENTINEL" "Ljava/util/List;")) (by decide +kernel)) (fun a h1 h2 => absurd h1 (Nat.not_lt.mpr h2))
  have hS : va_S (fun q : Nat => s.heap.size ≤ q) s.heap s.heap [] := va_S.rf
  have hK : va_K (dC, dI) vwCl [(cI, .int), (cZ, .boolean), (cS, .object RX3), (cC, .object RX0)] s := ⟨hKc, fun k q h => by
    match k, h with
    | 0, h => cases h; exact hcI
    | 1, h => cases h; exact hcZ
    | 2, h => cases h; exact hcS
    | 3, h => cases h; exact hcC
    | k + 4, h => simp at h⟩
  have hP : va_P (dC, dI) vwCl [] s.heap := kt_P0
  have hD : va_D (fun q : Nat => s.heap.size ≤ q) [] := kt_D0
  have hl := lv_entry ([.ref b]) (n := 7) (Nat.le_of_ble_eq_true rfl)
  rw [lg_entry_eq]
  generalize (lg_sl ([.ref b]) ++ List.replicate (7 - (lg_sl ([.ref b])).length) Slot.unset).toArray = ls at hl ⊢
  have hl : lv_has ls 7 [(0, .ref b)] := hl
  refine va_new (ci := 5) (fs := [.null, .null, .null, .null, .null, .int 0, .int 0, .int 0, .int 0, .int 0, .int 0]) (C := RX5) (T := TX5) (N := 11) hx hb hts (fun w h => inWX5 w h) tyX5 tyX5_ok hown (hts _ (kw_232)) (hts _ (kw_230)) (hts _ (kw_9)) hK hP hD hS hA rfl (fun j hj => by exact kt_dvX5 j hj) (by decide) (by decide) dL_law_0 (fun q_1 H hP hD hS => ?_)
  have hP : va_P (dC, dI) vwCl [(q_1, .inr (5, [.null, .null, .null, .null, .null, .int 0, .int 0, .int 0, .int 0, .int 0, .int 0]))] H := hP
  have hD : va_D (fun q : Nat => s.heap.size ≤ q) [(q_1, .inr (5, [.null, .null, .null, .null, .null, .int 0, .int 0, .int 0, .int 0, .int 0, .int 0]))] := hD
  refine W.widen (k := 1) (n := 11) (by omega) (by omega) ?_
  refine lv_dup hx hb dL_law_3 rfl ?_
  have hPc := hP.sub (ws' := [(q_1, .inr (5, [.null, .null, .null, .null, .null, .int 0, .int 0, .int 0, .int 0, .int 0, .int 0]))]) [0] rfl
  have hDc := hD.sub (ws' := [(q_1, .inr (5, [.null, .null, .null, .null, .null, .int 0, .int 0, .int 0, .int 0, .int 0, .int 0]))]) [0] (by decide) rfl
  have hFc := va_free (wc := [(q_1, .inr (5, [.null, .null, .null, .null, .null, .int 0, .int 0, .int 0, .int 0, .int 0, .int 0]))]) hD hS hA [0] rfl
  refine va_callv (va_runI (As := []) (rest := [.ref q_1]) ⟨hx, hb, hml, hown, hts⟩ (c_X5_init l dC dI cI cZ cS cC q_1 H.size (fun _ => 0)) (cwI 0 hts (gI (fun w h => h) kw_233) rfl rfl rfl (hts _ (kw_9)) (hts _ (kw_234)) (hts _ (kw_235)) rfl (by decide +kernel) ⟨Nat.le_of_ble_eq_true rfl, Nat.le_of_ble_eq_true rfl⟩) ⟨fun a U g mk q => by obtain ⟨q0, q1, qP, qK, qD, qE0, qE1, qE2, qE3, qE4, qE5⟩ := q; exact ⟨q0, q1, qP, va_K.moved (u := U) (U := U.calling g mk a) (Vm.Alike.refl U.vm) qK, qD, va_Nw.same rfl rfl qE0, va_Nw.same rfl rfl qE1, va_Nw.same rfl rfl qE2, va_Nw.same rfl rfl qE3, va_AO.moved (u := U) (U := U.calling g mk a) (Vm.Alike.refl U.vm) qE4, va_AO.moved (u := U) (U := U.calling g mk a) (Vm.Alike.refl U.vm) qE5⟩, fun U hU hW => ⟨rfl, by rw [hU], by rw [hU]; exact hPc, va_K.moved hW.alike hK, hDc.weaken (fun _ _ _ _ => trivial), va_Nw.warmM hW hN_23, va_Nw.warmM hW hN_37, va_Nw.warmM hW hN_61, va_Nw.warmM hW hN_11, va_AO.moved hW.alike hAOX3, va_AO.moved hW.alike hAOX0⟩⟩ rfl rfl hl.1 rfl (lv_room (Nat.le_of_ble_eq_true rfl)) dL_law_4 ⟨Nat.le_of_ble_eq_true rfl, Nat.le_of_ble_eq_true rfl⟩) hS (fun q _ h => hFc q h) hFc (fun u_2 t H1 locs ht hvm hw_2 hB hz1 hk1 hS => ?_)
  obtain ⟨ka, kd, kq⟩ := u_2
  obtain ⟨hP1, hK1, hD1⟩ := hB
  rw [ht] at hP1
  dsimp only at hP1 hD1
  have hE : kq (0 : Int32).toNatClampNeg = some (ka 5) := hw_2
  obtain ⟨hP, hD⟩ := va_join (wc := [(q_1, .inr (5, [.null, .null, .null, .null, .null, .int 0, .int 0, .int 0, .int 0, .int 0, .int 0]))]) (wr := []) (w1 := [(q_1, .inr (5, [.ref (ka 0), .ref (ka 1), .ref (ka 2), .ref (ka 3), .ref (ka 4), .int 0, .int 0, .int 10, .int 100, .int 0, .int 0])), (ka 0, .inl (cS, 12, .inr (.inr (.inr (.inr kq))))), (ka 5, .inr (3, [.int 0, .int 0, .int 0, .int 0, .int 0, .int 0, .int 0, .int 0, .int 0, .int 0])), (ka 3, .inr (2, [.ref (ka 6), .int 0])), (ka 6, .inl (cI, 16, .inl kd)), (ka 4, .inr (1, [.ref (ka 7), .int 0]))]) hP hD [0] [] rfl rfl (by decide) (by decide) hk1 hFc hP1 hD1
  generalize H1 = H at hP hS ⊢
  have hP : va_P (dC, dI) vwCl [(q_1, .inr (5, [.ref (ka 0), .ref (ka 1), .ref (ka 2), .ref (ka 3), .ref (ka 4), .int 0, .int 0, .int 10, .int 100, .int 0, .int 0])), (ka 0, .inl (cS, 12, .inr (.inr (.inr (.inr kq))))), (ka 5, .inr (3, [.int 0, .int 0, .int 0, .int 0, .int 0, .int 0, .int 0, .int 0, .int 0, .int 0])), (ka 3, .inr (2, [.ref (ka 6), .int 0])), (ka 6, .inl (cI, 16, .inl kd)), (ka 4, .inr (1, [.ref (ka 7), .int 0]))] H := hP
  have hD : va_D (fun q : Nat => s.heap.size ≤ q) [(q_1, .inr (5, [.ref (ka 0), .ref (ka 1), .ref (ka 2), .ref (ka 3), .ref (ka 4), .int 0, .int 0, .int 10, .int 100, .int 0, .int 0])), (ka 0, .inl (cS, 12, .inr (.inr (.inr (.inr kq))))), (ka 5, .inr (3, [.int 0, .int 0, .int 0, .int 0, .int 0, .int 0, .int 0, .int 0, .int 0, .int 0])), (ka 3, .inr (2, [.ref (ka 6), .int 0])), (ka 6, .inl (cI, 16, .inl kd)), (ka 4, .inr (1, [.ref (ka 7), .int 0]))] := hD
  refine W.widen (k := 45) (n := 2988) (by omega) (by omega) ?_
  refine lv_astore_n (lv' := [(1, .ref q_1), (0, .ref b)]) hx hb dL_law_7 rfl hl (by decide) rfl (fun ls hl => ?_)
  refine va_new (ci := 6) (fs := [.int 0, .int 0, .int 0, .int 0, .int 0, .int 0, .int 0, .int 0, .int 0, .null, .null, .null, .null, .null, .null, .null, .null, .null, .null, .null, .null, .null, .null, .null, .null, .null, .null, .null, .null, .null, .null, .null, .null, .null, .null, .null, .null, .null, .null, .null, .null, .null, .null]) (C := RX6) (T := TX6) (N := 43) hx hb hts (fun w h => inWX6 w h) tyX6 tyX6_ok hown (hts _ (kw_236)) (hts _ (kw_231)) (hts _ (kw_63)) hK hP hD hS hA rfl (fun j hj => by exact kt_dvX6 j hj) (by decide) (by decide) dL_law_8 (fun q_3 H hP hD hS => ?_)
  have hP : va_P (dC, dI) vwCl [(q_1, .inr (5, [.ref (ka 0), .ref (ka 1), .ref (ka 2), .ref (ka 3), .ref (ka 4), .int 0, .int 0, .int 10, .int 100, .int 0, .int 0])), (ka 0, .inl (cS, 12, .inr (.inr (.inr (.inr kq))))), (ka 5, .inr (3, [.int 0, .int 0, .int 0, .int 0, .int 0, .int 0, .int 0, .int 0, .int 0, .int 0])), (ka 3, .inr (2, [.ref (ka 6), .int 0])), (ka 6, .inl (cI, 16, .inl kd)), (ka 4, .inr (1, [.ref (ka 7), .int 0])), (q_3, .inr (6, [.int 0, .int 0, .int 0, .int 0, .int 0, .int 0, .int 0, .int 0, .int 0, .null, .null, .null, .null, .null, .null, .null, .null, .null, .null, .null, .null, .null, .null, .null, .null, .null, .null, .null, .null, .null, .null, .null, .null, .null, .null, .null, .null, .null, .null, .null, .null, .null, .null]))] H := hP
  have hD : va_D (fun q : Nat => s.heap.size ≤ q) [(q_1, .inr (5, [.ref (ka 0), .ref (ka 1), .ref (ka 2), .ref (ka 3), .ref (ka 4), .int 0, .int 0, .int 10, .int 100, .int 0, .int 0])), (ka 0, .inl (cS, 12, .inr (.inr (.inr (.inr kq))))), (ka 5, .inr (3, [.int 0, .int 0, .int 0, .int 0, .int 0, .int 0, .int 0, .int 0, .int 0, .int 0])), (ka 3, .inr (2, [.ref (ka 6), .int 0])), (ka 6, .inl (cI, 16, .inl kd)), (ka 4, .inr (1, [.ref (ka 7), .int 0])), (q_3, .inr (6, [.int 0, .int 0, .int 0, .int 0, .int 0, .int 0, .int 0, .int 0, .int 0, .null, .null, .null, .null, .null, .null, .null, .null, .null, .null, .null, .null, .null, .null, .null, .null, .null, .null, .null, .null, .null, .null, .null, .null, .null, .null, .null, .null, .null, .null, .null, .null, .null, .null]))] := hD
  refine W.widen (k := 46) (n := 3031) (by omega) (by omega) ?_
  refine lv_dup hx hb dL_law_11 rfl ?_
  have hPc := hP.sub (ws' := [(q_3, .inr (6, [.int 0, .int 0, .int 0, .int 0, .int 0, .int 0, .int 0, .int 0, .int 0, .null, .null, .null, .null, .null, .null, .null, .null, .null, .null, .null, .null, .null, .null, .null, .null, .null, .null, .null, .null, .null, .null, .null, .null, .null, .null, .null, .null, .null, .null, .null, .null, .null, .null]))]) [6] rfl
  have hDc := hD.sub (ws' := [(q_3, .inr (6, [.int 0, .int 0, .int 0, .int 0, .int 0, .int 0, .int 0, .int 0, .int 0, .null, .null, .null, .null, .null, .null, .null, .null, .null, .null, .null, .null, .null, .null, .null, .null, .null, .null, .null, .null, .null, .null, .null, .null, .null, .null, .null, .null, .null, .null, .null, .null, .null, .null]))]) [6] (by decide) rfl
  have hFc := va_free (wc := [(q_3, .inr (6, [.int 0, .int 0, .int 0, .int 0, .int 0, .int 0, .int 0, .int 0, .int 0, .null, .null, .null, .null, .null, .null, .null, .null, .null, .null, .null, .null, .null, .null, .null, .null, .null, .null, .null, .null, .null, .null, .null, .null, .null, .null, .null, .null, .null, .null, .null, .null, .null, .null]))]) hD hS hA [6] rfl
  refine va_callv (va_runI (As := []) (rest := [.ref q_3]) ⟨hx, hb, hml, hown, hts⟩ (c_X6_init l dC dI cI cZ cS cC q_3 H.size (fun _ => 0)) (cwI 0 hts (gI (fun w h => h) kw_237) rfl rfl rfl (hts _ (kw_63)) (hts _ (kw_238)) (hts _ (kw_239)) rfl (by decide +kernel) ⟨Nat.le_of_ble_eq_true rfl, Nat.le_of_ble_eq_true rfl⟩) ⟨fun a U g mk q => by obtain ⟨q0, q1, qP, qK, qD⟩ := q; exact ⟨q0, q1, qP, va_K.moved (u := U) (U := U.calling g mk a) (Vm.Alike.refl U.vm) qK, qD⟩, fun U hU hW => ⟨rfl, by rw [hU], by rw [hU]; exact hPc, va_K.moved hW.alike hK, hDc.weaken (fun _ _ _ _ => trivial)⟩⟩ rfl rfl hl.1 rfl (lv_room (Nat.le_of_ble_eq_true rfl)) dL_law_12 ⟨Nat.le_of_ble_eq_true rfl, Nat.le_of_ble_eq_true rfl⟩) hS (fun q _ h => hFc q h) hFc (fun u_4 t H1 locs ht hvm hw_4 hB hz1 hk1 hS => ?_)
  obtain ⟨ma, md⟩ := u_4
  obtain ⟨hP1, hK1, hD1⟩ := hB
  rw [ht] at hP1
  dsimp only at hP1 hD1
  obtain ⟨hP, hD⟩ := va_join (wc := [(q_3, .inr (6, [.int 0, .int 0, .int 0, .int 0, .int 0, .int 0, .int 0, .int 0, .int 0, .null, .null, .null, .null, .null, .null, .null, .null, .null, .null, .null, .null, .null, .null, .null, .null, .null, .null, .null, .null, .null, .null, .null, .null, .null, .null, .null, .null, .null, .null, .null, .null, .null, .null]))]) (wr := [(q_1, .inr (5, [.ref (ka 0), .ref (ka 1), .ref (ka 2), .ref (ka 3), .ref (ka 4), .int 0, .int 0, .int 10, .int 100, .int 0, .int 0])), (ka 0, .inl (cS, 12, .inr (.inr (.inr (.inr kq))))), (ka 5, .inr (3, [.int 0, .int 0, .int 0, .int 0, .int 0, .int 0, .int 0, .int 0, .int 0, .int 0])), (ka 3, .inr (2, [.ref (ka 6), .int 0])), (ka 6, .inl (cI, 16, .inl kd)), (ka 4, .inr (1, [.ref (ka 7), .int 0]))]) (w1 := [(q_3, .inr (6, [.int 0, .int 0, .int 0, .int 0, .int 0, .int 0, .int 0, .int 10, .int 100, .ref (ma 9), .ref (ma 10), .ref (ma 11), .ref (ma 12), .ref (ma 13), .ref (ma 14), .ref (ma 15), .ref (ma 16), .ref (ma 17), .ref (ma 18), .ref (ma 19), .ref (ma 20), .ref (ma 21), .ref (ma 22), .ref (ma 23), .ref (ma 24), .ref (ma 25), .ref (ma 26), .ref (ma 27), .ref (ma 28), .ref (ma 29), .ref (ma 30), .ref (ma 31), .ref (ma 32), .ref (ma 33), .ref (ma 34), .ref (ma 35), .ref (ma 36), .ref (ma 37), .ref (ma 38), .ref (ma 39), .ref (ma 40), .ref (ma 41), .ref (ma 42)])), (ma 9, .inl (cI, 12, .inl (fun _ => 0))), (ma 10, .inl (cI, 12, .inl (fun _ => 0))), (ma 11, .inl (cI, 12, .inl (fun _ => 0))), (ma 12, .inl (cI, 12, .inl (fun _ => 0))), (ma 14, .inl (cI, 12, .inl (fun _ => 0))), (ma 25, .inl (cI, 72, .inl (fun _ => 0))), (ma 26, .inl (cI, 72, .inl (fun _ => 0))), (ma 28, .inl (cI, 72, .inl (fun _ => 0))), (ma 27, .inl (cI, 16, .inl md)), (ma 23, .inl (cZ, 17, .inl (fun _ => 0))), (ma 42, .inl (cZ, 12, .inl (fun _ => 0)))]) hP hD [6] [0, 1, 2, 3, 4, 5] rfl rfl (by decide) (by decide) hk1 hFc hP1 hD1
  generalize H1 = H at hP hS ⊢
  have hP : va_P (dC, dI) vwCl [(q_1, .inr (5, [.ref (ka 0), .ref (ka 1), .ref (ka 2), .ref (ka 3), .ref (ka 4), .int 0, .int 0, .int 10, .int 100, .int 0, .int 0])), (ka 0, .inl (cS, 12, .inr (.inr (.inr (.inr kq))))), (ka 5, .inr (3, [.int 0, .int 0, .int 0, .int 0, .int 0, .int 0, .int 0, .int 0, .int 0, .int 0])), (ka 3, .inr (2, [.ref (ka 6), .int 0])), (ka 6, .inl (cI, 16, .inl kd)), (ka 4, .inr (1, [.ref (ka 7), .int 0])), (q_3, .inr (6, [.int 0, .int 0, .int 0, .int 0, .int 0, .int 0, .int 0, .int 10, .int 100, .ref (ma 9), .ref (ma 10), .ref (ma 11), .ref (ma 12), .ref (ma 13), .ref (ma 14), .ref (ma 15), .ref (ma 16), .ref (ma 17), .ref (ma 18), .ref (ma 19), .ref (ma 20), .ref (ma 21), .ref (ma 22), .ref (ma 23), .ref (ma 24), .ref (ma 25), .ref (ma 26), .ref (ma 27), .ref (ma 28), .ref (ma 29), .ref (ma 30), .ref (ma 31), .ref (ma 32), .ref (ma 33), .ref (ma 34), .ref (ma 35), .ref (ma 36), .ref (ma 37), .ref (ma 38), .ref (ma 39), .ref (ma 40), .ref (ma 41), .ref (ma 42)])), (ma 9, .inl (cI, 12, .inl (fun _ => 0))), (ma 10, .inl (cI, 12, .inl (fun _ => 0))), (ma 11, .inl (cI, 12, .inl (fun _ => 0))), (ma 12, .inl (cI, 12, .inl (fun _ => 0))), (ma 14, .inl (cI, 12, .inl (fun _ => 0))), (ma 25, .inl (cI, 72, .inl (fun _ => 0))), (ma 26, .inl (cI, 72, .inl (fun _ => 0))), (ma 28, .inl (cI, 72, .inl (fun _ => 0))), (ma 27, .inl (cI, 16, .inl md)), (ma 23, .inl (cZ, 17, .inl (fun _ => 0))), (ma 42, .inl (cZ, 12, .inl (fun _ => 0)))] H := hP
  have hD : va_D (fun q : Nat => s.heap.size ≤ q) [(q_1, .inr (5, [.ref (ka 0), .ref (ka 1), .ref (ka 2), .ref (ka 3), .ref (ka 4), .int 0, .int 0, .int 10, .int 100, .int 0, .int 0])), (ka 0, .inl (cS, 12, .inr (.inr (.inr (.inr kq))))), (ka 5, .inr (3, [.int 0, .int 0, .int 0, .int 0, .int 0, .int 0, .int 0, .int 0, .int 0, .int 0])), (ka 3, .inr (2, [.ref (ka 6), .int 0])), (ka 6, .inl (cI, 16, .inl kd)), (ka 4, .inr (1, [.ref (ka 7), .int 0])), (q_3, .inr (6, [.int 0, .int 0, .int 0, .int 0, .int 0, .int 0, .int 0, .int 10, .int 100, .ref (ma 9), .ref (ma 10), .ref (ma 11), .ref (ma 12), .ref (ma 13), .ref (ma 14), .ref (ma 15), .ref (ma 16), .ref (ma 17), .ref (ma 18), .ref (ma 19), .ref (ma 20), .ref (ma 21), .ref (ma 22), .ref (ma 23), .ref (ma 24), .ref (ma 25), .ref (ma 26), .ref (ma 27), .ref (ma 28), .ref (ma 29), .ref (ma 30), .ref (ma 31), .ref (ma 32), .ref (ma 33), .ref (ma 34), .ref (ma 35), .ref (ma 36), .ref (ma 37), .ref (ma 38), .ref (ma 39), .ref (ma 40), .ref (ma 41), .ref (ma 42)])), (ma 9, .inl (cI, 12, .inl (fun _ => 0))), (ma 10, .inl (cI, 12, .inl (fun _ => 0))), (ma 11, .inl (cI, 12, .inl (fun _ => 0))), (ma 12, .inl (cI, 12, .inl (fun _ => 0))), (ma 14, .inl (cI, 12, .inl (fun _ => 0))), (ma 25, .inl (cI, 72, .inl (fun _ => 0))), (ma 26, .inl (cI, 72, .inl (fun _ => 0))), (ma 28, .inl (cI, 72, .inl (fun _ => 0))), (ma 27, .inl (cI, 16, .inl md)), (ma 23, .inl (cZ, 17, .inl (fun _ => 0))), (ma 42, .inl (cZ, 12, .inl (fun _ => 0)))] := hD
  refine W.widen (k := 80) (n := 10531) (by omega) (by omega) ?_
  refine lv_astore_n (lv' := [(2, .ref q_3), (1, .ref q_1), (0, .ref b)]) hx hb dL_law_15 rfl hl (by decide) rfl (fun ls hl => ?_)
  refine lv_iconst (v := 1) hx hb dL_law_16 (by decide) ?_
  refine va_newa (atype := .long) (ty := .long) (N' := 1) (a0 := (1, .inr (.inl (fun _ => 0)))) hx hb (hts _ (kw_240)) rfl hK hP hD hS hA (fun _ => rfl) (by decide) (by decide) (by decide) (by decide) (by decide) dL_law_17 (fun q_5 cA H hK9 hP hD hS => ?_)
  have hK := hK9
  have hP : va_P (dC, dI) vwCl [(q_1, .inr (5, [.ref (ka 0), .ref (ka 1), .ref (ka 2), .ref (ka 3), .ref (ka 4), .int 0, .int 0, .int 10, .int 100, .int 0, .int 0])), (ka 0, .inl (cS, 12, .inr (.inr (.inr (.inr kq))))), (ka 5, .inr (3, [.int 0, .int 0, .int 0, .int 0, .int 0, .int 0, .int 0, .int 0, .int 0, .int 0])), (ka 3, .inr (2, [.ref (ka 6), .int 0])), (ka 6, .inl (cI, 16, .inl kd)), (ka 4, .inr (1, [.ref (ka 7), .int 0])), (q_3, .inr (6, [.int 0, .int 0, .int 0, .int 0, .int 0, .int 0, .int 0, .int 10, .int 100, .ref (ma 9), .ref (ma 10), .ref (ma 11), .ref (ma 12), .ref (ma 13), .ref (ma 14), .ref (ma 15), .ref (ma 16), .ref (ma 17), .ref (ma 18), .ref (ma 19), .ref (ma 20), .ref (ma 21), .ref (ma 22), .ref (ma 23), .ref (ma 24), .ref (ma 25), .ref (ma 26), .ref (ma 27), .ref (ma 28), .ref (ma 29), .ref (ma 30), .ref (ma 31), .ref (ma 32), .ref (ma 33), .ref (ma 34), .ref (ma 35), .ref (ma 36), .ref (ma 37), .ref (ma 38), .ref (ma 39), .ref (ma 40), .ref (ma 41), .ref (ma 42)])), (ma 9, .inl (cI, 12, .inl (fun _ => 0))), (ma 10, .inl (cI, 12, .inl (fun _ => 0))), (ma 11, .inl (cI, 12, .inl (fun _ => 0))), (ma 12, .inl (cI, 12, .inl (fun _ => 0))), (ma 14, .inl (cI, 12, .inl (fun _ => 0))), (ma 25, .inl (cI, 72, .inl (fun _ => 0))), (ma 26, .inl (cI, 72, .inl (fun _ => 0))), (ma 28, .inl (cI, 72, .inl (fun _ => 0))), (ma 27, .inl (cI, 16, .inl md)), (ma 23, .inl (cZ, 17, .inl (fun _ => 0))), (ma 42, .inl (cZ, 12, .inl (fun _ => 0))), (q_5, .inl (cA, 1, .inr (.inl (fun _ => 0))))] H := hP
  have hD : va_D (fun q : Nat => s.heap.size ≤ q) [(q_1, .inr (5, [.ref (ka 0), .ref (ka 1), .ref (ka 2), .ref (ka 3), .ref (ka 4), .int 0, .int 0, .int 10, .int 100, .int 0, .int 0])), (ka 0, .inl (cS, 12, .inr (.inr (.inr (.inr kq))))), (ka 5, .inr (3, [.int 0, .int 0, .int 0, .int 0, .int 0, .int 0, .int 0, .int 0, .int 0, .int 0])), (ka 3, .inr (2, [.ref (ka 6), .int 0])), (ka 6, .inl (cI, 16, .inl kd)), (ka 4, .inr (1, [.ref (ka 7), .int 0])), (q_3, .inr (6, [.int 0, .int 0, .int 0, .int 0, .int 0, .int 0, .int 0, .int 10, .int 100, .ref (ma 9), .ref (ma 10), .ref (ma 11), .ref (ma 12), .ref (ma 13), .ref (ma 14), .ref (ma 15), .ref (ma 16), .ref (ma 17), .ref (ma 18), .ref (ma 19), .ref (ma 20), .ref (ma 21), .ref (ma 22), .ref (ma 23), .ref (ma 24), .ref (ma 25), .ref (ma 26), .ref (ma 27), .ref (ma 28), .ref (ma 29), .ref (ma 30), .ref (ma 31), .ref (ma 32), .ref (ma 33), .ref (ma 34), .ref (ma 35), .ref (ma 36), .ref (ma 37), .ref (ma 38), .ref (ma 39), .ref (ma 40), .ref (ma 41), .ref (ma 42)])), (ma 9, .inl (cI, 12, .inl (fun _ => 0))), (ma 10, .inl (cI, 12, .inl (fun _ => 0))), (ma 11, .inl (cI, 12, .inl (fun _ => 0))), (ma 12, .inl (cI, 12, .inl (fun _ => 0))), (ma 14, .inl (cI, 12, .inl (fun _ => 0))), (ma 25, .inl (cI, 72, .inl (fun _ => 0))), (ma 26, .inl (cI, 72, .inl (fun _ => 0))), (ma 28, .inl (cI, 72, .inl (fun _ => 0))), (ma 27, .inl (cI, 16, .inl md)), (ma 23, .inl (cZ, 17, .inl (fun _ => 0))), (ma 42, .inl (cZ, 12, .inl (fun _ => 0))), (q_5, .inl (cA, 1, .inr (.inl (fun _ => 0))))] := hD
  refine W.widen (k := 81) (n := 10532) (by omega) (by omega) ?_
  refine lv_astore_n (lv' := [(3, .ref q_5), (2, .ref q_3), (1, .ref q_1), (0, .ref b)]) hx hb dL_law_19 rfl hl (by decide) rfl (fun ls hl => ?_)
  refine lv_iconst (v := 0) hx hb dL_law_20 (by decide) ?_
  refine lv_istore (lv' := [(4, .int 0), (3, .ref q_5), (2, .ref q_3), (1, .ref q_1), (0, .ref b)]) hx hb dL_law_21 hl (by decide) rfl (fun ls hl => ?_)
  refine lv_iload hx hb dL_law_23 (lv_at hl 0 rfl) ?_
  refine lv_aload_n hx hb dL_law_25 rfl (lv_at hl 4 rfl) ?_
  refine va_slen hx hb hX hbl hbA hS dL_law_26 ?_
  refine lv_iconst (v := 5) hx hb dL_law_27 (by decide) ?_
  refine lv_isub hx hb dL_law_28 ?_
  refine lv_topi (fun t_6 et_6 => ?_)
  refine lv_icmp_gt (tgt := 842) hx hb dL_law_29 (by decide) (fun c_7 => ?_) (fun c_7 => ?_)
  · refine lv_iconst (v := 1) hx hb dL_law_842 (by decide) ?_
    refine va_forget (fun q hq => hS.2.2 q hq) ?_
    refine W.widen (k := 600002) (n := 7302232) (Nat.le_of_ble_eq_true rfl) (Nat.le_of_ble_eq_true rfl) ?_
    exact lw_ret hx hb hr hlocks dL_law_843
  · obtain rfl : L = 5 := by
      rcases (show L = 0 ∨ L = 1 ∨ L = 2 ∨ L = 3 ∨ L = 4 ∨ L = 5 by omega) with rfl | rfl | rfl | rfl | rfl | rfl
      · exact absurd (by rw [et_6]; decide) c_7
      · exact absurd (by rw [et_6]; decide) c_7
      · exact absurd (by rw [et_6]; decide) c_7
      · exact absurd (by rw [et_6]; decide) c_7
      · exact absurd (by rw [et_6]; decide) c_7
      · rfl
    refine lv_aload_n hx hb dL_law_32 rfl (lv_at hl 4 rfl) ?_
    refine lv_iload hx hb dL_law_33 (lv_at hl 0 rfl) ?_
    refine va_sld hx hb hX hbl hbA hS (by unfold vp_in; decide) dL_law_35 ?_
    refine lv_bipush (v := 31) hx hb dL_law_36 (by decide) ?_
    refine lv_iand hx hb dL_law_38 ?_
    refine lv_topi (fun t_8 et_8 => ?_)
    obtain ⟨j, hj, ej⟩ := pk_andE (xs (0 : Int32).toNatClampNeg) (m := 31) 5 rfl
    rcases (show j = 0 ∨ j = 1 ∨ j = 2 ∨ j = 3 ∨ j = 4 ∨ j = 5 ∨ j = 6 ∨ j = 7 ∨ j = 8 ∨ j = 9 ∨ j = 10 ∨ j = 11 ∨ j = 12 ∨ j = 13 ∨ j = 14 ∨ j = 15 ∨ j = 16 ∨ 17 ≤ j by omega) with rfl | rfl | rfl | rfl | rfl | rfl | rfl | rfl | rfl | rfl | rfl | rfl | rfl | rfl | rfl | rfl | rfl | hj2
    · obtain rfl : t_8 = 0 := et_8.trans (ej.trans rfl)
      refine lv_tableIn (off := 81) (tgt := 120) hx hb dL_law_39 (by decide) (by decide) (by decide) (by decide) ?_
      exact law_case0 hx hb hr hml hown hts hX hbl hlocks hA hbA hK hP hD hS hl hE
    · obtain rfl : t_8 = 1 := et_8.trans (ej.trans rfl)
      refine lv_tableIn (off := 142) (tgt := 181) hx hb dL_law_39 (by decide) (by decide) (by decide) (by decide) ?_
      exact law_case1 hx hb hr hml hown hts hX hbl hlocks hA hbA hK hP hD hS hl
    · obtain rfl : t_8 = 2 := et_8.trans (ej.trans rfl)
      refine lv_tableIn (off := 207) (tgt := 246) hx hb dL_law_39 (by decide) (by decide) (by decide) (by decide) ?_
      exact law_case2 hx hb hr hml hown hts hX hbl hlocks hA hbA hK hP hD hS hl
    · obtain rfl : t_8 = 3 := et_8.trans (ej.trans rfl)
      refine lv_tableIn (off := 244) (tgt := 283) hx hb dL_law_39 (by decide) (by decide) (by decide) (by decide) ?_
      exact law_case3 hx hb hr hml hown hts hX hbl hlocks hA hbA hK hP hD hS hl
    · obtain rfl : t_8 = 4 := et_8.trans (ej.trans rfl)
      refine lv_tableIn (off := 281) (tgt := 320) hx hb dL_law_39 (by decide) (by decide) (by decide) (by decide) ?_
      exact law_case4 hx hb hr hml hown hts hX hbl hlocks hA hbA hK hP hD hS hl
    · obtain rfl : t_8 = 5 := et_8.trans (ej.trans rfl)
      refine lv_tableIn (off := 334) (tgt := 373) hx hb dL_law_39 (by decide) (by decide) (by decide) (by decide) ?_
      exact law_case5 hx hb hr hml hown hts hX hbl hlocks hA hbA hK hP hD hS hl
    · obtain rfl : t_8 = 6 := et_8.trans (ej.trans rfl)
      refine lv_tableIn (off := 359) (tgt := 398) hx hb dL_law_39 (by decide) (by decide) (by decide) (by decide) ?_
      exact law_case6 hx hb hr hml hown hts hX hbl hlocks hA hbA hK hP hD hS hl
    · obtain rfl : t_8 = 7 := et_8.trans (ej.trans rfl)
      refine lv_tableIn (off := 384) (tgt := 423) hx hb dL_law_39 (by decide) (by decide) (by decide) (by decide) ?_
      exact law_case7 hx hb hr hml hown hts hX hbl hlocks hA hbA hK hP hD hS hl
    · obtain rfl : t_8 = 8 := et_8.trans (ej.trans rfl)
      refine lv_tableIn (off := 409) (tgt := 448) hx hb dL_law_39 (by decide) (by decide) (by decide) (by decide) ?_
      exact law_case8 hx hb hr hml hown hts hX hbl hlocks hA hbA hK hP hD hS hl
    · obtain rfl : t_8 = 9 := et_8.trans (ej.trans rfl)
      refine lv_tableIn (off := 458) (tgt := 497) hx hb dL_law_39 (by decide) (by decide) (by decide) (by decide) ?_
      exact law_case9 hx hb hr hml hown hts hX hbl hlocks hA hbA hK hP hD hS hl
    · obtain rfl : t_8 = 10 := et_8.trans (ej.trans rfl)
      refine lv_tableIn (off := 519) (tgt := 558) hx hb dL_law_39 (by decide) (by decide) (by decide) (by decide) ?_
      exact law_case10 hx hb hr hml hown hts hX hbl hlocks hA hbA hK hP hD hS hl
    · obtain rfl : t_8 = 11 := et_8.trans (ej.trans rfl)
      refine lv_tableIn (off := 556) (tgt := 595) hx hb dL_law_39 (by decide) (by decide) (by decide) (by decide) ?_
      exact law_case11 hx hb hr hml hown hts hX hbl hlocks hA hbA hK hP hD hS hl
    · obtain rfl : t_8 = 12 := et_8.trans (ej.trans rfl)
      refine lv_tableIn (off := 593) (tgt := 632) hx hb dL_law_39 (by decide) (by decide) (by decide) (by decide) ?_
      exact law_case12 hx hb hr hml hown hts hX hbl hlocks hA hbA hK hP hD hS hl
    · obtain rfl : t_8 = 13 := et_8.trans (ej.trans rfl)
      refine lv_tableIn (off := 642) (tgt := 681) hx hb dL_law_39 (by decide) (by decide) (by decide) (by decide) ?_
      exact law_case13 hx hb hr hml hown hts hX hbl hlocks hA hbA hK hP hD hS hl
    · obtain rfl : t_8 = 14 := et_8.trans (ej.trans rfl)
      refine lv_tableIn (off := 667) (tgt := 706) hx hb dL_law_39 (by decide) (by decide) (by decide) (by decide) ?_
      exact law_case14 hx hb hr hml hown hts hX hbl hlocks hA hbA hK hP hD hS hl
    · obtain rfl : t_8 = 15 := et_8.trans (ej.trans rfl)
      refine lv_tableIn (off := 704) (tgt := 743) hx hb dL_law_39 (by decide) (by decide) (by decide) (by decide) ?_
      exact law_case15 hx hb hr hml hown hts hX hbl hlocks hA hbA hK hP hD hS hl hT hU0 hRs hZ1 hZ2
    · obtain rfl : t_8 = 16 := et_8.trans (ej.trans rfl)
      refine lv_tableIn (off := 772) (tgt := 811) hx hb dL_law_39 (by decide) (by decide) (by decide) (by decide) ?_
      exact law_case16 hx hb hr hml hown hts hX hbl hlocks hA hbA hK hP hD hS hl
    · refine lv_tableOut (tgt := 836) hx hb dL_law_39 (Or.inr (by rw [et_8, ej, nI_toInt (by omega)]; omega)) (by decide) ?_
      refine lv_iinc (v := 5) (lv' := [(4, .int 5), (3, .ref q_5), (2, .ref q_3), (1, .ref q_1), (0, .ref b)]) hx hb dL_law_836 hl (k := 0) rfl (by decide) (by decide) rfl (fun ls hl => ?_)
      refine lv_goto (tgt := 23) hx hb dL_law_839 (by decide) ?_
      refine lv_iload hx hb dL_law_23 (lv_at hl 0 rfl) ?_
      refine lv_aload_n hx hb dL_law_25 rfl (lv_at hl 4 rfl) ?_
      refine va_slen hx hb hX hbl hbA hS dL_law_26 ?_
      refine lv_topi (fun t_9 et_9 => ?_)
      obtain rfl : t_9 = 5 := et_9.trans (by decide)
      refine lv_iconst (v := 5) hx hb dL_law_27 (by decide) ?_
      refine lv_isub hx hb dL_law_28 ?_
      refine lv_topi (fun t_10 et_10 => ?_)
      obtain rfl : t_10 = 0 := et_10.trans (by decide)
      refine lv_icmp_gt (tgt := 842) hx hb dL_law_29 (by decide) (fun c_11 => ?_) (fun c_11 => absurd (by decide) c_11)
      refine lv_iconst (v := 1) hx hb dL_law_842 (by decide) ?_
      refine va_forget (fun q hq => hS.2.2 q hq) ?_
      refine W.widen (k := 600002) (n := 7302232) (Nat.le_of_ble_eq_true rfl) (Nat.le_of_ble_eq_true rfl) ?_
      exact lw_ret hx hb hr hlocks dL_law_843
