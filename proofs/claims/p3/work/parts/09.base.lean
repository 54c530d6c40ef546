theorem L0 : (0 : Int32).toInt = 0 := rfl
theorem L1 : (1 : Int32).toInt = 1 := rfl
theorem L5 : (5 : Int32).toInt = 5 := rfl
theorem L10 : (10 : Int32).toInt = 10 := rfl
theorem L12 : (12 : Int32).toInt = 12 := rfl
theorem L15 : (15 : Int32).toInt = 15 := rfl
theorem L16 : (16 : Int32).toInt = 16 := rfl
theorem L20 : (20 : Int32).toInt = 20 := rfl
theorem L63 : (63 : Int32).toInt = 63 := rfl
theorem L1000 : (1000 : Int32).toInt = 1000 := rfl
theorem L1023 : (1023 : Int32).toInt = 1023 := rfl
theorem L2000 : (2000 : Int32).toInt = 2000 := rfl
theorem L10000 : (10000 : Int32).toInt = 10000 := rfl
theorem L100000 : (100000 : Int32).toInt = 100000 := rfl
theorem Lm1 : (-1 : Int32).toInt = -1 := rfl
theorem kt_shr0 (x : Int32) : (0 : Int32) >>> (x &&& 31) = 0 := by
  apply Int32.toBitVec_inj.mp
  simp
theorem kt_P0 {D : va_G} {cl : List vw_C} {H : Heap} : va_P D cl [] H := fun k q h => by simp at h
theorem kt_D0 {A : Nat → Prop} : va_D A [] := ⟨fun i j p q h => by simp at h, fun k q h => by simp at h⟩
/-- two classes of arrays of ints (or booleans) are one -/
theorem kt_cA {D : va_G} {cl : List vw_C} {tys : List (ClassId × FieldType)} {s : State} (hK : va_K D cl tys s) {i j : Nat} {a b : ClassId} {ty : FieldType} (hi : tys[i]? = some (a, ty)) (hj : tys[j]? = some (b, ty)) (ht : ty = .int ∨ ty = .boolean := by first | exact Or.inl rfl | exact Or.inr rfl) : a = b := by
  have h1 := (hK.2 i _ hi).2
  have h2 := (hK.2 j _ hj).2
  rcases ht with rfl | rfl
  · exact Option.some.inj ((show s.vm.findClass _ = some a from h1).symm.trans h2)
  · exact Option.some.inj ((show s.vm.findClass _ = some a from h1).symm.trans h2)
theorem kt_cQ {D : va_G} {cl : List vw_C} {tys : List (ClassId × FieldType)} {s : State} (hK : va_K D cl tys s) {i j : Nat} {a b : ClassId} {C : String} (hi : tys[i]? = some (a, .object C)) (hj : tys[j]? = some (b, .object C)) : a = b := by
  obtain ⟨k1, c1, -, -, -, h1⟩ := (hK.2 i _ hi).2
  obtain ⟨k2, c2, -, -, -, h2⟩ := (hK.2 j _ hj).2
  exact Option.some.inj (h1.symm.trans h2)
theorem gI {big : List Cond} {c1 : Cond} (hb : ∀ w ∈ WW, w ∈ big) (h : c1 ∈ WW) : GoodIn big (c1 :: WW) := fun w hw => by
  rcases List.mem_cons.mp hw with rfl | hw
  · exact ⟨hb _ h, good_of_word (ww_good _ h)⟩
  · exact ⟨hb _ hw, good_of_word (ww_good _ hw)⟩
theorem gV {big : List Cond} {own C : String} {idx : Nat} {y : MethodName} {c1 : Cond} (hb : ∀ w ∈ WW, w ∈ big) (h1 : Cond.methodLink own idx y ∈ WW) (h2 : Cond.instanceMethod y ∈ WW) (h3 : Cond.selects C y y ∈ WW) (h4 : Cond.initialized C ∈ WW) (h : c1 ∈ WW) : GoodIn big (wsV own idx C y (c1 :: WW)) := fun w hw => by
  rcases List.mem_append.mp hw with hw | hw
  · have hm : w ∈ WW := by
      simp only [List.mem_cons, List.not_mem_nil, or_false] at hw
      rcases hw with rfl | rfl | rfl | rfl <;> assumption
    exact ⟨hb _ hm, good_of_word (ww_good _ hm)⟩
  · exact gI hb h w hw
theorem gS {big : List Cond} {own : String} {idx : Nat} {y : MethodName} {c1 : Cond} (hb : ∀ w ∈ WW, w ∈ big) (h1 : Cond.methodLink own idx y ∈ WW) (h2 : Cond.static y ∈ WW) (h4 : Cond.initialized y.cls ∈ WW) (h : c1 ∈ WW) : GoodIn big (va_wsS own idx y (c1 :: WW)) := fun w hw => by
  rcases List.mem_append.mp hw with hw | hw
  · have hm : w ∈ WW := by
      simp only [List.mem_cons, List.not_mem_nil, or_false] at hw
      rcases hw with rfl | rfl | rfl <;> assumption
    exact ⟨hb _ hm, good_of_word (ww_good _ hm)⟩
  · exact gI hb h w hw
def sp_secret (p0 p1 p2 p3 : Int32) : Int32 := if p0 < 0 ∨ 1 < p0 ∨ p1 < 0 ∨ 1023 < p1 ∨ p2 < 1 ∨ 63 < p2 ∨ p3 < 1 ∨ 10000 < p3 then -1 else 0
def sp_quiet (p0 p1 : Int32) : Int32 := if p0 < 0 ∨ 1000 < p0 ∨ p1 < 0 ∨ 10000 < p1 then 0 else 1
def sp_delay (p0 p1 : Int32) : Int32 := if p0 < 0 ∨ 15 < p0 ∨ p1 < 0 ∨ 20 < p1 then 0 else 1
def sp_down (p0 p1 : Int32) : Int32 := if p0 < 0 ∨ 16 < p0 ∨ p1 = 0 then 0 else 1
def sp_tick (p0 : Int32) : Int32 := if p0 < 0 ∨ 2000 < p0 then -1 else p0
def sp_count (p0 : Int32) : Int32 := if p0 < 0 ∨ 7 < p0 then -1 else 0
theorem kt_sw8 (x : Int32) : x = 0 ∨ x = 1 ∨ x = 2 ∨ x = 3 ∨ x = 4 ∨ x = 5 ∨ x = 6 ∨ x = 7 ∨ (x.toInt < 0 ∨ 7 < x.toInt) := by
  simp only [← Int32.toInt_inj, L0, L1, L5, show (2 : Int32).toInt = 2 from rfl, show (3 : Int32).toInt = 3 from rfl, show (4 : Int32).toInt = 4 from rfl, show (6 : Int32).toInt = 6 from rfl, show (7 : Int32).toInt = 7 from rfl]
  omega
theorem L7 : (7 : Int32).toInt = 7 := rfl
theorem kt_id {P : Prop} (h : P) {Q : Prop} (_ : Q) : P := h
theorem kt_nlt {x : Int32} (h : ¬ 2000 < x) : x ≤ 2000 := by
  simp only [Int32.lt_iff_toInt_lt, Int32.le_iff_toInt_le] at h ⊢
  omega
theorem kt_absQ {p : Program} {l : Launch} {e : Env} {R : Room} {s : State} {m : MethodId} {args : Array Value} {below : List Frame} {meth : Method} {c : Code} {H : Heap} {locs : List Loc} {cells slots : Nat} {g : JFrame} {Q : State → Prop} (h : ∀ Q1 : State → Prop, Q1 = Q → W p l e R s m args below meth c H locs cells slots Q1 g) : W p l e R s m args below meth c H locs cells slots Q g := h Q rfl
theorem kt_arr {s : State} {args : Array Value} {ty : FieldType} (hno : ∀ C, ty ≠ .object C) (h : (Cond.arrayClass ty).before args s = true) : ∃ cA, ArrOfT s cA ty ∧ va_RA s cA ty := by
  obtain ⟨c, k, comp, h1, h2, h3⟩ := Cond.arrayClass_spec h
  refine ⟨c, fun n z => ⟨fun k h => (by cases h), k, h2, comp, h3⟩, ?_⟩
  cases ty <;> first | exact h1 | exact absurd rfl (hno _)
theorem kt_arrq {s : State} {args : Array Value} {C : String} (h : (Cond.arrayOver (.object C)).before args s = true) : ∃ cA, ArrOfT s cA (.object C) ∧ va_RA s cA (.object C) := by
  obtain ⟨comp, c, k, h1, h2, h3, h4, h5⟩ := Cond.arrayOver_spec h
  exact ⟨c, fun n z => ⟨fun k h => (by cases h), k, h3, comp, h4⟩, k, comp, h3, h4, h1, h5⟩
theorem kt_row {x t y : Int32} (h0 : ¬ x < 0) (h1 : x < 500) (k : Nat) (hk : k < 5) (ht : t = x * 5) (hy : y = t + nI k) : vp_in y 2500 := by
  obtain ⟨j, hj, rfl⟩ : ∃ j : Nat, j < 500 ∧ x = nI j := by
    obtain ⟨j, hj, e⟩ := nI_of h0
    refine ⟨j, ?_, e⟩
    rw [e] at h1
    exact (nI_ltI hj (by decide)).mp (show nI j < nI 500 from h1)
  have e5 : nI j * 5 = nI (j * 5) := pk_mul j 5
  rw [hy, ht, e5, nI_add]
  exact vp_in_nI (by omega) (by decide)
theorem kt_lt {k M : Int32} {i N : Nat} (hM : M = nI N) (hN : N < 2 ^ 31) (ek : k = nI i) (hi : i ≤ N) (c : ¬ M ≤ k) : i < N := by
  rcases Nat.lt_or_ge i N with z | z
  · exact z
  · exact absurd (by rw [hM, ek]; exact nI_le z (by omega)) c
theorem kt_inl {k M : Int32} {i N : Nat} (hM : M = nI N) (hN : N < 2 ^ 31) (ek : k = nI i) (hi : i ≤ N) (c : ¬ M ≤ k) : vp_in k N := by
  rw [ek]
  exact vp_in_nI (kt_lt hM hN ek hi c) hN
theorem kt_sw15 (x : Int32) : x = 1 ∨ x = 2 ∨ x = 3 ∨ x = 4 ∨ x = 5 ∨ (x.toInt < 1 ∨ 5 < x.toInt) := by
  simp only [← Int32.toInt_inj, L1, L5, show (2 : Int32).toInt = 2 from rfl, show (3 : Int32).toInt = 3 from rfl, show (4 : Int32).toInt = 4 from rfl]
  omega
theorem L500 : (500 : Int32).toInt = 500 := rfl
theorem kt_dvX0 : ∀ j, j < 9 → defaultValue (tyX0 j) = vp_V [.null, .null, .int 0, .int 0, .int 0, .int 0, .int 0, .int 0, .int 0] j := by
  intro j hj
  match j, hj with
  | 0, _ => rfl
  | 1, _ => rfl
  | 2, _ => rfl
  | 3, _ => rfl
  | 4, _ => rfl
  | 5, _ => rfl
  | 6, _ => rfl
  | 7, _ => rfl
  | 8, _ => rfl
  | j + 9, h => exact absurd h (by omega)
theorem kt_dvX1 : ∀ j, j < 2 → defaultValue (tyX1 j) = vp_V [.null, .int 0] j := by
  intro j hj
  match j, hj with
  | 0, _ => rfl
  | 1, _ => rfl
  | j + 2, h => exact absurd h (by omega)
theorem kt_dvX2 : ∀ j, j < 2 → defaultValue (tyX2 j) = vp_V [.null, .int 0] j := by
  intro j hj
  match j, hj with
  | 0, _ => rfl
  | 1, _ => rfl
  | j + 2, h => exact absurd h (by omega)
theorem kt_dvX3 : ∀ j, j < 10 → defaultValue (tyX3 j) = vp_V [.int 0, .int 0, .int 0, .int 0, .int 0, .int 0, .int 0, .int 0, .int 0, .int 0] j := by
  intro j hj
  match j, hj with
  | 0, _ => rfl
  | 1, _ => rfl
  | 2, _ => rfl
  | 3, _ => rfl
  | 4, _ => rfl
  | 5, _ => rfl
  | 6, _ => rfl
  | 7, _ => rfl
  | 8, _ => rfl
  | 9, _ => rfl
  | j + 10, h => exact absurd h (by omega)
theorem kt_dvX4 : ∀ j, j < 1 → defaultValue (tyX4 j) = vp_V [.null] j := by
  intro j hj
  match j, hj with
  | 0, _ => rfl
  | j + 1, h => exact absurd h (by omega)
theorem kt_dvX5 : ∀ j, j < 11 → defaultValue (tyX5 j) = vp_V [.null, .null, .null, .null, .null, .int 0, .int 0, .int 0, .int 0, .int 0, .int 0] j := by
  intro j hj
  match j, hj with
  | 0, _ => rfl
  | 1, _ => rfl
  | 2, _ => rfl
  | 3, _ => rfl
  | 4, _ => rfl
  | 5, _ => rfl
  | 6, _ => rfl
  | 7, _ => rfl
  | 8, _ => rfl
  | 9, _ => rfl
  | 10, _ => rfl
  | j + 11, h => exact absurd h (by omega)
theorem kt_dvX6 : ∀ j, j < 43 → defaultValue (tyX6 j) = vp_V [.int 0, .int 0, .int 0, .int 0, .int 0, .int 0, .int 0, .int 0, .int 0, .null, .null, .null, .null, .null, .null, .null, .null, .null, .null, .null, .null, .null, .null, .null, .null, .null, .null, .null, .null, .null, .null, .null, .null, .null, .null, .null, .null, .null, .null, .null, .null, .null, .null] j := by
  intro j hj
  match j, hj with
  | 0, _ => rfl
  | 1, _ => rfl
  | 2, _ => rfl
  | 3, _ => rfl
  | 4, _ => rfl
  | 5, _ => rfl
  | 6, _ => rfl
  | 7, _ => rfl
  | 8, _ => rfl
  | 9, _ => rfl
  | 10, _ => rfl
  | 11, _ => rfl
  | 12, _ => rfl
  | 13, _ => rfl
  | 14, _ => rfl
  | 15, _ => rfl
  | 16, _ => rfl
  | 17, _ => rfl
  | 18, _ => rfl
  | 19, _ => rfl
  | 20, _ => rfl
  | 21, _ => rfl
  | 22, _ => rfl
  | 23, _ => rfl
  | 24, _ => rfl
  | 25, _ => rfl
  | 26, _ => rfl
  | 27, _ => rfl
  | 28, _ => rfl
  | 29, _ => rfl
  | 30, _ => rfl
  | 31, _ => rfl
  | 32, _ => rfl
  | 33, _ => rfl
  | 34, _ => rfl
  | 35, _ => rfl
  | 36, _ => rfl
  | 37, _ => rfl
  | 38, _ => rfl
  | 39, _ => rfl
  | 40, _ => rfl
  | 41, _ => rfl
  | 42, _ => rfl
  | j + 43, h => exact absurd h (by omega)
