theorem kt_len {L : Nat} (hL : L ≤ 2560) {t : Int32} (e : t = Int32.ofNat L - 5) : t.toInt = (L : Int) - 5 := by
  have h : (Int32.ofNat L).toInt = (L : Int) := nI_toInt (n := L) (by omega)
  rw [e, Int32.toInt_sub, h, L5]
  exact Int.bmod_eq_of_le (by omega) (by omega)
set_option maxHeartbeats 4000000 in
set_option maxRecDepth 100000 in
theorem law_loop {p : Program} {l : Launch} {e : Env} {s : State} {m : MethodId} {below : List Frame} {meth : Method} {c : Code} {b L : Nat} {xs : Nat → Int32} {dC : Nat → ClassId} {dI : Nat → Nat → Nat} {cI cZ cS cC cJ : ClassId} {a : Nat → Nat} (hx : p.tables.exec = Jvm.exec) (hb : c.code = cL_law) (hr : meth.sig.returnType = ret) (hml : c.maxLocals = 7) (hown : s.vm.findClass RL = some m.cls) (hts : ∀ w ∈ WW, w.before #[Value.ref b] s = true) (hX : va_X b L xs s s.heap) (hbl : b < s.heap.size) (hlocks : meth.locks = false) (hA : ∀ q : Nat, s.heap.size ≤ q → (fun q : Nat => s.heap.size ≤ q) q) (hbA : ¬ (fun q : Nat => s.heap.size ≤ q) b) (hK : va_K (dC, dI) vwCl [(cI, .int), (cZ, .boolean), (cS, .object RX3), (cC, .object RX0), (cJ, .long)] s) (hN : mN s) (hD : mDD a) (hAc : ∀ c, c < 81 → (fun q : Nat => s.heap.size ≤ q) (a c)) (hL5 : L ≤ 2560) (hT : l.stackTraces = false) {sa : Nat} (hU0 : exU s) (hRs : vk_R RX5 191 exT sa s) (hZ1 : vx_Zq Bundle.tN "UNASSIGNED_STACK" Bundle.steD (fun q : Nat => s.heap.size ≤ q) s s.heap) (hZ2 : vx_Zq Bundle.tN "SUPPRESSED_SENTINEL" Bundle.listD (fun q : Nat => s.heap.size ≤ q) s s.heap) : ∀ (n j : Nat) (k : Int32) (v : Nat → Nat → Int32) (H : Heap) (locs : List Loc) (ls : Array Slot), j ≤ 512 → 512 - j < n → k = nI (5 * j) → va_P (dC, dI) vwCl (mW cI cZ cS cC cJ a v) H → va_S (fun q : Nat => s.heap.size ≤ q) s.heap H locs → lv_has ls 7 [(0, .ref b), (1, .ref (a 0)), (2, .ref (a 45)), (3, .ref (a 80)), (4, .int k)] → kI v v → rB j v v → rL v → xR v → W p l e room_1 s m #[Value.ref b] below meth c H locs (81 + j) (10532 + 6 * j) (lw_Z below #[Value.ref b] s) (F0 m 23 ls []) := by
  intro n
  induction n with
  | zero => intro j k v H locs ls h1 h2; exact absurd h2 (by omega)
  | succ n ih =>
      intro j k v H locs ls hj5 hjn ek hP hS hl hI hB hL hX9
      refine lv_iload hx hb dL_law_23 (lv_at hl 4 rfl) ?_
      refine lv_aload_n hx hb dL_law_25 rfl (lv_at hl 0 rfl) ?_
      refine va_slen hx hb hX hbl hbA hS dL_law_26 ?_
      refine lv_iconst (v := 5) hx hb dL_law_27 (by decide) ?_
      refine lv_isub hx hb dL_law_28 ?_
      refine lv_topi (fun t_1 et_1 => ?_)
      refine lv_icmp_gt (tgt := 814) hx hb dL_law_29 (by decide) (fun c_2 => ?_) (fun c_2 => ?_)
      · refine lv_iconst (v := 1) hx hb dL_law_814 (by decide) ?_
        refine va_forget (fun q hq => hS.2.2 q hq) ?_
        refine W.widen (k := 601024) (n := 7293034) (by omega) (by omega) ?_
        exact lw_ret hx hb hr hlocks dL_law_815
      · have hj : 5 * j + 5 ≤ L := by have z := c_2; rw [Int32.lt_iff_toInt_lt, kt_len hL5 et_1, ek, nI_toInt (by omega)] at z; omega
        refine lv_aload_n hx hb dL_law_32 rfl (lv_at hl 0 rfl) ?_
        refine lv_iload hx hb dL_law_33 (lv_at hl 4 rfl) ?_
        refine va_sld hx hb hX hbl hbA hS (kt_inN ek (by omega) (by omega)) dL_law_35 ?_
        refine lv_topi (fun t_3 et_3 => ?_)
        rw [ek, nI_clamp (by omega)] at et_3
        refine lv_bipush (v := 31) hx hb dL_law_36 (by decide) ?_
        refine lv_iand hx hb dL_law_38 ?_
        refine lv_topi (fun t_4 et_4 => ?_)
        obtain ⟨jj, hjj, ej⟩ := pk_andE t_3 (m := 31) 5 rfl
        have hgo : ∀ (v : Nat → Nat → Int32) (H : Heap) (locs : List Loc) (ls : Array Slot), va_P (dC, dI) vwCl (mW cI cZ cS cC cJ a v) H → va_S (fun q : Nat => s.heap.size ≤ q) s.heap H locs → lv_has ls 7 [(0, .ref b), (1, .ref (a 0)), (2, .ref (a 45)), (3, .ref (a 80)), (4, .int k)] → kI v v → rB (j + 1) v v → rL v → xR v → W p l e room_1 s m #[Value.ref b] below meth c H locs (81 + (j + 1)) (10532 + 6 * (j + 1)) (lw_Z below #[Value.ref b] s) (F0 m 808 ls []) := by
          intro v H locs ls hP hS hl hI hB hL hX9
          obtain ⟨k9, ek9⟩ : ∃ y : Int32, y = k + 5 := ⟨_, rfl⟩
          refine lv_iinc (v := k9) (lv' := [(4, .int k9), (0, .ref b), (1, .ref (a 0)), (2, .ref (a 45)), (3, .ref (a 80))]) hx hb dL_law_808 hl (k := 4) rfl (by rw [ek9]; rfl) (by decide) rfl (fun ls hl => ?_)
          refine lv_goto (tgt := 23) hx hb dL_law_811 (by decide) ?_
          exact ih (j + 1) k9 v H locs ls (by omega) (by omega) (by rw [ek9, ek]; exact nI_add _ 5) hP hS (lv_sub hl [1, 2, 3, 4, 0] rfl) hI hB hL hX9
        rcases (show jj = 0 ∨ jj = 1 ∨ jj = 2 ∨ jj = 3 ∨ jj = 4 ∨ jj = 5 ∨ jj = 6 ∨ jj = 7 ∨ jj = 8 ∨ jj = 9 ∨ jj = 10 ∨ jj = 11 ∨ jj = 12 ∨ jj = 13 ∨ jj = 14 ∨ jj = 15 ∨ jj = 16 ∨ 17 ≤ jj by omega) with rfl | rfl | rfl | rfl | rfl | rfl | rfl | rfl | rfl | rfl | rfl | rfl | rfl | rfl | rfl | rfl | rfl | hj2
        · obtain rfl : t_4 = 0 := et_4.trans (ej.trans rfl)
          refine lv_tableIn (off := 81) (tgt := 120) hx hb dL_law_39 (by decide) (by decide) (by decide) (by decide) ?_
          exact law_case0 hx hb hr hml hown hts hX hbl hlocks hA hbA hK hN hD hAc hL5 ek hj hP hS hl hI hB hL hX9 hgo
        · obtain rfl : t_4 = 1 := et_4.trans (ej.trans rfl)
          refine lv_tableIn (off := 142) (tgt := 181) hx hb dL_law_39 (by decide) (by decide) (by decide) (by decide) ?_
          exact law_case1 hx hb hr hml hown hts hX hbl hlocks hA hbA hK hN hD hAc hL5 ek hj hP hS hl hI hB hL hX9 hgo
        · obtain rfl : t_4 = 2 := et_4.trans (ej.trans rfl)
          refine lv_tableIn (off := 207) (tgt := 246) hx hb dL_law_39 (by decide) (by decide) (by decide) (by decide) ?_
          exact law_case2 hx hb hr hml hown hts hX hbl hlocks hA hbA hK hN hD hAc hL5 ek hj hP hS hl hI hB hL hX9 hgo
        · obtain rfl : t_4 = 3 := et_4.trans (ej.trans rfl)
          refine lv_tableIn (off := 244) (tgt := 283) hx hb dL_law_39 (by decide) (by decide) (by decide) (by decide) ?_
          exact law_case3 hx hb hr hml hown hts hX hbl hlocks hA hbA hK hN hD hAc hL5 ek hj hP hS hl hI hB hL hX9 hgo
        · obtain rfl : t_4 = 4 := et_4.trans (ej.trans rfl)
          refine lv_tableIn (off := 281) (tgt := 320) hx hb dL_law_39 (by decide) (by decide) (by decide) (by decide) ?_
          exact law_case4 hx hb hr hml hown hts hX hbl hlocks hA hbA hK hN hD hAc hL5 ek hj hP hS hl hI hB hL hX9 hgo
        · obtain rfl : t_4 = 5 := et_4.trans (ej.trans rfl)
          refine lv_tableIn (off := 334) (tgt := 373) hx hb dL_law_39 (by decide) (by decide) (by decide) (by decide) ?_
          exact law_case5 hx hb hr hml hown hts hX hbl hlocks hA hbA hK hN hD hAc hL5 ek hj hP hS hl hI hB hL hX9 hgo
        · obtain rfl : t_4 = 6 := et_4.trans (ej.trans rfl)
          refine lv_tableIn (off := 359) (tgt := 398) hx hb dL_law_39 (by decide) (by decide) (by decide) (by decide) ?_
          exact law_case6 hx hb hr hml hown hts hX hbl hlocks hA hbA hK hN hD hAc hL5 ek hj hP hS hl hI hB hL hX9 hgo
        · obtain rfl : t_4 = 7 := et_4.trans (ej.trans rfl)
          refine lv_tableIn (off := 384) (tgt := 423) hx hb dL_law_39 (by decide) (by decide) (by decide) (by decide) ?_
          exact law_case7 hx hb hr hml hown hts hX hbl hlocks hA hbA hK hN hD hAc hL5 ek hj hP hS hl hI hB hL hX9 hgo
        · obtain rfl : t_4 = 8 := et_4.trans (ej.trans rfl)
          refine lv_tableIn (off := 409) (tgt := 448) hx hb dL_law_39 (by decide) (by decide) (by decide) (by decide) ?_
          exact law_case8 hx hb hr hml hown hts hX hbl hlocks hA hbA hK hN hD hAc hL5 ek hj hP hS hl hI hB hL hX9 hgo
        · obtain rfl : t_4 = 9 := et_4.trans (ej.trans rfl)
          refine lv_tableIn (off := 458) (tgt := 497) hx hb dL_law_39 (by decide) (by decide) (by decide) (by decide) ?_
          exact law_case9 hx hb hr hml hown hts hX hbl hlocks hA hbA hK hN hD hAc hL5 ek hj hP hS hl hI hB hL hX9 hgo
        · obtain rfl : t_4 = 10 := et_4.trans (ej.trans rfl)
          refine lv_tableIn (off := 519) (tgt := 558) hx hb dL_law_39 (by decide) (by decide) (by decide) (by decide) ?_
          exact law_case10 hx hb hr hml hown hts hX hbl hlocks hA hbA hK hN hD hAc hL5 ek hj hP hS hl hI hB hL hX9 hgo
        · obtain rfl : t_4 = 11 := et_4.trans (ej.trans rfl)
          refine lv_tableIn (off := 556) (tgt := 595) hx hb dL_law_39 (by decide) (by decide) (by decide) (by decide) ?_
          exact law_case11 hx hb hr hml hown hts hX hbl hlocks hA hbA hK hN hD hAc hL5 ek hj hP hS hl hI hB hL hX9 hgo
        · obtain rfl : t_4 = 12 := et_4.trans (ej.trans rfl)
          refine lv_tableIn (off := 593) (tgt := 632) hx hb dL_law_39 (by decide) (by decide) (by decide) (by decide) ?_
          exact law_case12 hx hb hr hml hown hts hX hbl hlocks hA hbA hK hN hD hAc hL5 ek hj hP hS hl hI hB hL hX9 hgo
        · obtain rfl : t_4 = 13 := et_4.trans (ej.trans rfl)
          refine lv_tableIn (off := 642) (tgt := 681) hx hb dL_law_39 (by decide) (by decide) (by decide) (by decide) ?_
          exact law_case13 hx hb hr hml hown hts hX hbl hlocks hA hbA hK hN hD hAc hL5 ek hj hP hS hl hI hB hL hX9 hgo
        · obtain rfl : t_4 = 14 := et_4.trans (ej.trans rfl)
          refine lv_tableIn (off := 667) (tgt := 706) hx hb dL_law_39 (by decide) (by decide) (by decide) (by decide) ?_
          exact law_case14 hx hb hr hml hown hts hX hbl hlocks hA hbA hK hN hD hAc hL5 ek hj hP hS hl hI hB hL hX9 hgo
        · obtain rfl : t_4 = 15 := et_4.trans (ej.trans rfl)
          refine lv_tableIn (off := 704) (tgt := 743) hx hb dL_law_39 (by decide) (by decide) (by decide) (by decide) ?_
          exact law_case15 hx hb hr hml hown hts hX hbl hlocks hA hbA hK hN hD hAc hL5 hT hU0 hRs hZ1 hZ2 ek hj hP hS hl hI hB hL hX9 hgo
        · obtain rfl : t_4 = 16 := et_4.trans (ej.trans rfl)
          refine lv_tableIn (off := 744) (tgt := 783) hx hb dL_law_39 (by decide) (by decide) (by decide) (by decide) ?_
          exact law_case16 hx hb hr hml hown hts hX hbl hlocks hA hbA hK hN hD hAc hL5 ek hj hP hS hl hI hB hL hX9 hgo
        · refine lv_tableOut (tgt := 808) hx hb dL_law_39 (Or.inr (by rw [et_4, ej, nI_toInt (by omega)]; omega)) (by decide) ?_
          refine W.widen (k := 81 + (j + 1)) (n := 10532 + 6 * (j + 1)) (by omega) (by omega) ?_
          exact hgo v _ _ _ hP hS (lv_sub hl [0, 1, 2, 3, 4] rfl) hI (hB.up (by omega)) hL hX9
