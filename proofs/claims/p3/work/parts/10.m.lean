def gP (cI : ClassId) (a : Nat → Nat) (i j : Nat) (x : Nat → Int32) : va_E := match j with
  | 0 => .inr (0, [.ref (a (10 + 3 * i)), .ref (a (11 + 3 * i)), .int (x 2), .int (x 3), .int (x 4), .int (x 5), .int (x 6), .int (x 7), .int (x 8)])
  | 1 => .inr (3, [.int (x 0), .int (x 1), .int (x 2), .int (x 3), .int (x 4), .int (x 5), .int (x 6), .int (x 7), .int (x 8), .int (x 9)])
  | _ => .inl (cI, 16, .inl x)
def gR (cI cZ cJ : ClassId) (a : Nat → Nat) (j : Nat) (x : Nat → Int32) : va_E := match j with
  | 0 => .inr (6, [.int (x 0), .int (x 1), .int (x 2), .int (x 3), .int (x 4), .int (x 5), .int (x 6), .int (x 7), .int (x 8), .ref (a 46), .ref (a 47), .ref (a 48), .ref (a 49), .ref (a 50), .ref (a 51), .ref (a 52), .ref (a 53), .ref (a 54), .ref (a 55), .ref (a 56), .ref (a 57), .ref (a 58), .ref (a 59), .ref (a 60), .ref (a 61), .ref (a 62), .ref (a 63), .ref (a 64), .ref (a 65), .ref (a 66), .ref (a 67), .ref (a 68), .ref (a 69), .ref (a 70), .ref (a 71), .ref (a 72), .ref (a 73), .ref (a 74), .ref (a 75), .ref (a 76), .ref (a 77), .ref (a 78), .ref (a 79)])
  | 1 => .inl (cI, 12, .inl x)
  | 2 => .inl (cI, 12, .inl x)
  | 3 => .inl (cI, 12, .inl x)
  | 4 => .inl (cI, 12, .inl x)
  | 5 => .inl (cI, 12, .inl x)
  | 6 => .inl (cI, 12, .inl x)
  | 7 => .inl (cI, 12, .inl x)
  | 8 => .inl (cI, 12, .inl x)
  | 9 => .inl (cI, 12, .inl x)
  | 10 => .inl (cI, 12, .inl x)
  | 11 => .inl (cI, 12, .inl x)
  | 12 => .inl (cI, 12, .inl x)
  | 13 => .inl (cZ, 12, .inl x)
  | 14 => .inl (cZ, 144, .inl x)
  | 15 => .inl (cZ, 17, .inl x)
  | 16 => .inl (cI, 120, .inl x)
  | 17 => .inl (cI, 72, .inl x)
  | 18 => .inl (cI, 72, .inl x)
  | 19 => .inl (cI, 16, .inl x)
  | 20 => .inl (cI, 72, .inl x)
  | 21 => .inl (cI, 72, .inl x)
  | 22 => .inl (cI, 600, .inl x)
  | 23 => .inl (cI, 600, .inl x)
  | 24 => .inl (cI, 600, .inl x)
  | 25 => .inl (cI, 600, .inl x)
  | 26 => .inl (cI, 600, .inl x)
  | 27 => .inl (cZ, 600, .inl x)
  | 28 => .inl (cI, 500, .inl x)
  | 29 => .inl (cI, 500, .inl x)
  | 30 => .inl (cI, 500, .inl x)
  | 31 => .inl (cI, 500, .inl x)
  | 32 => .inl (cZ, 500, .inl x)
  | 33 => .inl (cZ, 12, .inl x)
  | 34 => .inl (cZ, 12, .inl x)
  | _ => .inl (cJ, 1, .inr (.inl (fun j => (x j).toInt64)))

def gE (cI cZ cS cC cJ : ClassId) (a : Nat → Nat) (c : Nat) (x : Nat → Int32) : va_E := match c with
  | 0 => .inr (5, [.ref (a 1), .ref (a 2), .ref (a 3), .ref (a 5), .ref (a 7), .int (x 5), .int (x 6), .int (x 7), .int (x 8), .int (x 9), .int (x 10)])
  | 1 => .inl (cS, 12, .inr (.inr (.inr (.inr (fun j => some (a (10 + 3 * j)))))))
  | 2 => .inl (cC, 12, .inr (.inr (.inr (.inr (fun j => some (a (9 + 3 * j)))))))
  | 3 => .inr (4, [.ref (a 4)])
  | 4 => .inl (cI, 12, .inl x)
  | 5 => .inr (2, [.ref (a 6), .int (x 1)])
  | 6 => .inl (cI, 16, .inl x)
  | 7 => .inr (1, [.ref (a 8), .int (x 1)])
  | 8 => .inl (cI, 2500, .inl x)
  | c + 9 => if c < 36 then gP cI a (c / 3) (c % 3) x else gR cI cZ cJ a (c - 36) x
def mW (cI cZ cS cC cJ : ClassId) (a : Nat → Nat) (v : Nat → Nat → Int32) : va_W := (List.range 81).map (fun c => (a c, gE cI cZ cS cC cJ a c (v c)))
def mU (v : Nat → Nat → Int32) (c : Nat) (x : Nat → Int32) : Nat → Nat → Int32 := fun d => if d = c then x else v d
theorem mU_self (v : Nat → Nat → Int32) (c : Nat) (x : Nat → Int32) : mU v c x c = x := by simp [mU]
theorem mU_ne (v : Nat → Nat → Int32) {c d : Nat} (x : Nat → Int32) (h : d ≠ c) : mU v c x d = v d := by simp [mU, h]
theorem mW_at {cI cZ cS cC cJ : ClassId} {a : Nat → Nat} {v : Nat → Nat → Int32} {c : Nat} (h : c < 81) : (mW cI cZ cS cC cJ a v)[c]? = some (a c, gE cI cZ cS cC cJ a c (v c)) := by
  simp [mW, h]
theorem mW_put {D : va_G} {cl : List vw_C} {H : Heap} {cI cZ cS cC cJ : ClassId} {a : Nat → Nat} {v : Nat → Nat → Int32} {c : Nat} {en : va_E} {x : Nat → Int32} (hP : va_P D cl ((mW cI cZ cS cC cJ a v).set c (a c, en)) H) (hc : c < 81) (he : en = gE cI cZ cS cC cJ a c x) : va_P D cl (mW cI cZ cS cC cJ a (mU v c x)) H := by
  subst he
  have hl : c < (mW cI cZ cS cC cJ a v).length := by simp [mW, hc]
  have h : (mW cI cZ cS cC cJ a v).set c (a c, gE cI cZ cS cC cJ a c x) = mW cI cZ cS cC cJ a (mU v c x) := by
    apply List.ext_getElem?
    intro d
    by_cases hd : d = c
    · subst hd
      rw [List.getElem?_set_self hl, mW_at hc, mU_self]
    · rw [List.getElem?_set_ne (Ne.symm hd)]
      by_cases h8 : d < 81
      · rw [mW_at h8, mW_at h8, mU_ne _ _ hd]
      · simp [mW, h8]
  rw [← h]
  exact hP
def mDD (a : Nat → Nat) : Prop := ∀ i j, i < 81 → j < 81 → a i = a j → i = j
def mA (a : Nat → Nat) (sz : Nat) : Nat → Prop := fun q => (∃ c, c < 81 ∧ q = a c) ∨ sz ≤ q
theorem mW_of {cI cZ cS cC cJ : ClassId} {a : Nat → Nat} {v : Nat → Nat → Int32} {c : Nat} {q : Nat × va_E} (h : (mW cI cZ cS cC cJ a v)[c]? = some q) : c < 81 ∧ q = (a c, gE cI cZ cS cC cJ a c (v c)) := by
  by_cases h8 : c < 81
  · rw [mW_at h8] at h
    exact ⟨h8, (Option.some.inj h).symm⟩
  · simp [mW, h8] at h
theorem mD_of {cI cZ cS cC cJ : ClassId} {a : Nat → Nat} {v : Nat → Nat → Int32} {A : Nat → Prop} (h : mDD a) (hA : ∀ c, c < 81 → A (a c)) : va_D A (mW cI cZ cS cC cJ a v) := by
  refine ⟨fun i j p q hi hj hpq => ?_, fun k q hk => ?_⟩
  · obtain ⟨h1, e1⟩ := mW_of hi
    obtain ⟨h2, e2⟩ := mW_of hj
    rw [e1, e2] at hpq
    exact h i j h1 h2 hpq
  · obtain ⟨h1, e1⟩ := mW_of hk
    rw [e1]
    exact hA k h1
theorem mA_free {a : Nat → Nat} {H0 H : Heap} {A : Nat → Prop} {locs : List Loc} (hS : va_S A H0 H locs) (hA : ∀ q, H0.size ≤ q → A q) (hAc : ∀ c, c < 81 → A (a c)) : ∀ q, mA a H.size q → A q := by
  rintro q (⟨c, hc, rfl⟩ | h)
  · exact hAc c hc
  · exact hA q (Nat.le_trans hS.1 h)
theorem gE_C {cI cZ cS cC cJ : ClassId} {a : Nat → Nat} {i : Nat} (hi : i < 12) (x : Nat → Int32) : gE cI cZ cS cC cJ a (9 + 3 * i) x = .inr (0, [.ref (a (10 + 3 * i)), .ref (a (11 + 3 * i)), .int (x 2), .int (x 3), .int (x 4), .int (x 5), .int (x 6), .int (x 7), .int (x 8)]) := by
  show gE cI cZ cS cC cJ a (9 + 3 * i) x = gP cI a i 0 x
  rw [show 9 + 3 * i = (0 + 3 * i) + 9 by omega]
  show (if 0 + 3 * i < 36 then gP cI a ((0 + 3 * i) / 3) ((0 + 3 * i) % 3) x else _) = _
  rw [if_pos (by omega), show (0 + 3 * i) / 3 = i by omega, show (0 + 3 * i) % 3 = 0 by omega]
theorem at_C {cI cZ cS cC cJ : ClassId} {a : Nat → Nat} {v : Nat → Nat → Int32} {i : Nat} (hi : i < 12) : (mW cI cZ cS cC cJ a v)[9 + 3 * i]? = some (a (9 + 3 * i), .inr (0, [.ref (a (10 + 3 * i)), .ref (a (11 + 3 * i)), .int (v (9 + 3 * i) 2), .int (v (9 + 3 * i) 3), .int (v (9 + 3 * i) 4), .int (v (9 + 3 * i) 5), .int (v (9 + 3 * i) 6), .int (v (9 + 3 * i) 7), .int (v (9 + 3 * i) 8)])) := by
  rw [mW_at (by omega), gE_C hi]
theorem gE_S {cI cZ cS cC cJ : ClassId} {a : Nat → Nat} {i : Nat} (hi : i < 12) (x : Nat → Int32) : gE cI cZ cS cC cJ a (10 + 3 * i) x = .inr (3, [.int (x 0), .int (x 1), .int (x 2), .int (x 3), .int (x 4), .int (x 5), .int (x 6), .int (x 7), .int (x 8), .int (x 9)]) := by
  show gE cI cZ cS cC cJ a (10 + 3 * i) x = gP cI a i 1 x
  rw [show 10 + 3 * i = (1 + 3 * i) + 9 by omega]
  show (if 1 + 3 * i < 36 then gP cI a ((1 + 3 * i) / 3) ((1 + 3 * i) % 3) x else _) = _
  rw [if_pos (by omega), show (1 + 3 * i) / 3 = i by omega, show (1 + 3 * i) % 3 = 1 by omega]
theorem at_S {cI cZ cS cC cJ : ClassId} {a : Nat → Nat} {v : Nat → Nat → Int32} {i : Nat} (hi : i < 12) : (mW cI cZ cS cC cJ a v)[10 + 3 * i]? = some (a (10 + 3 * i), .inr (3, [.int (v (10 + 3 * i) 0), .int (v (10 + 3 * i) 1), .int (v (10 + 3 * i) 2), .int (v (10 + 3 * i) 3), .int (v (10 + 3 * i) 4), .int (v (10 + 3 * i) 5), .int (v (10 + 3 * i) 6), .int (v (10 + 3 * i) 7), .int (v (10 + 3 * i) 8), .int (v (10 + 3 * i) 9)])) := by
  rw [mW_at (by omega), gE_S hi]
theorem gE_R {cI cZ cS cC cJ : ClassId} {a : Nat → Nat} {i : Nat} (hi : i < 12) (x : Nat → Int32) : gE cI cZ cS cC cJ a (11 + 3 * i) x = .inl (cI, 16, .inl x) := by
  show gE cI cZ cS cC cJ a (11 + 3 * i) x = gP cI a i 2 x
  rw [show 11 + 3 * i = (2 + 3 * i) + 9 by omega]
  show (if 2 + 3 * i < 36 then gP cI a ((2 + 3 * i) / 3) ((2 + 3 * i) % 3) x else _) = _
  rw [if_pos (by omega), show (2 + 3 * i) / 3 = i by omega, show (2 + 3 * i) % 3 = 2 by omega]
theorem at_R {cI cZ cS cC cJ : ClassId} {a : Nat → Nat} {v : Nat → Nat → Int32} {i : Nat} (hi : i < 12) : (mW cI cZ cS cC cJ a v)[11 + 3 * i]? = some (a (11 + 3 * i), .inl (cI, 16, .inl (v (11 + 3 * i)))) := by
  rw [mW_at (by omega), gE_R hi]
theorem at_0 {cI cZ cS cC cJ : ClassId} {a : Nat → Nat} {v : Nat → Nat → Int32} : (mW cI cZ cS cC cJ a v)[0]? = some (a 0, .inr (5, [.ref (a 1), .ref (a 2), .ref (a 3), .ref (a 5), .ref (a 7), .int (v 0 5), .int (v 0 6), .int (v 0 7), .int (v 0 8), .int (v 0 9), .int (v 0 10)])) := mW_at (by decide)
theorem at_1 {cI cZ cS cC cJ : ClassId} {a : Nat → Nat} {v : Nat → Nat → Int32} : (mW cI cZ cS cC cJ a v)[1]? = some (a 1, .inl (cS, 12, .inr (.inr (.inr (.inr (fun j => some (a (10 + 3 * j)))))))) := mW_at (by decide)
theorem at_2 {cI cZ cS cC cJ : ClassId} {a : Nat → Nat} {v : Nat → Nat → Int32} : (mW cI cZ cS cC cJ a v)[2]? = some (a 2, .inl (cC, 12, .inr (.inr (.inr (.inr (fun j => some (a (9 + 3 * j)))))))) := mW_at (by decide)
theorem at_3 {cI cZ cS cC cJ : ClassId} {a : Nat → Nat} {v : Nat → Nat → Int32} : (mW cI cZ cS cC cJ a v)[3]? = some (a 3, .inr (4, [.ref (a 4)])) := mW_at (by decide)
theorem at_4 {cI cZ cS cC cJ : ClassId} {a : Nat → Nat} {v : Nat → Nat → Int32} : (mW cI cZ cS cC cJ a v)[4]? = some (a 4, .inl (cI, 12, .inl (v 4))) := mW_at (by decide)
theorem at_5 {cI cZ cS cC cJ : ClassId} {a : Nat → Nat} {v : Nat → Nat → Int32} : (mW cI cZ cS cC cJ a v)[5]? = some (a 5, .inr (2, [.ref (a 6), .int (v 5 1)])) := mW_at (by decide)
theorem at_6 {cI cZ cS cC cJ : ClassId} {a : Nat → Nat} {v : Nat → Nat → Int32} : (mW cI cZ cS cC cJ a v)[6]? = some (a 6, .inl (cI, 16, .inl (v 6))) := mW_at (by decide)
theorem at_7 {cI cZ cS cC cJ : ClassId} {a : Nat → Nat} {v : Nat → Nat → Int32} : (mW cI cZ cS cC cJ a v)[7]? = some (a 7, .inr (1, [.ref (a 8), .int (v 7 1)])) := mW_at (by decide)
theorem at_8 {cI cZ cS cC cJ : ClassId} {a : Nat → Nat} {v : Nat → Nat → Int32} : (mW cI cZ cS cC cJ a v)[8]? = some (a 8, .inl (cI, 2500, .inl (v 8))) := mW_at (by decide)
theorem at_45 {cI cZ cS cC cJ : ClassId} {a : Nat → Nat} {v : Nat → Nat → Int32} : (mW cI cZ cS cC cJ a v)[45]? = some (a 45, .inr (6, [.int (v 45 0), .int (v 45 1), .int (v 45 2), .int (v 45 3), .int (v 45 4), .int (v 45 5), .int (v 45 6), .int (v 45 7), .int (v 45 8), .ref (a 46), .ref (a 47), .ref (a 48), .ref (a 49), .ref (a 50), .ref (a 51), .ref (a 52), .ref (a 53), .ref (a 54), .ref (a 55), .ref (a 56), .ref (a 57), .ref (a 58), .ref (a 59), .ref (a 60), .ref (a 61), .ref (a 62), .ref (a 63), .ref (a 64), .ref (a 65), .ref (a 66), .ref (a 67), .ref (a 68), .ref (a 69), .ref (a 70), .ref (a 71), .ref (a 72), .ref (a 73), .ref (a 74), .ref (a 75), .ref (a 76), .ref (a 77), .ref (a 78), .ref (a 79)])) := mW_at (by decide)
theorem at_46 {cI cZ cS cC cJ : ClassId} {a : Nat → Nat} {v : Nat → Nat → Int32} : (mW cI cZ cS cC cJ a v)[46]? = some (a 46, .inl (cI, 12, .inl (v 46))) := mW_at (by decide)
theorem at_47 {cI cZ cS cC cJ : ClassId} {a : Nat → Nat} {v : Nat → Nat → Int32} : (mW cI cZ cS cC cJ a v)[47]? = some (a 47, .inl (cI, 12, .inl (v 47))) := mW_at (by decide)
theorem at_48 {cI cZ cS cC cJ : ClassId} {a : Nat → Nat} {v : Nat → Nat → Int32} : (mW cI cZ cS cC cJ a v)[48]? = some (a 48, .inl (cI, 12, .inl (v 48))) := mW_at (by decide)
theorem at_49 {cI cZ cS cC cJ : ClassId} {a : Nat → Nat} {v : Nat → Nat → Int32} : (mW cI cZ cS cC cJ a v)[49]? = some (a 49, .inl (cI, 12, .inl (v 49))) := mW_at (by decide)
theorem at_50 {cI cZ cS cC cJ : ClassId} {a : Nat → Nat} {v : Nat → Nat → Int32} : (mW cI cZ cS cC cJ a v)[50]? = some (a 50, .inl (cI, 12, .inl (v 50))) := mW_at (by decide)
theorem at_51 {cI cZ cS cC cJ : ClassId} {a : Nat → Nat} {v : Nat → Nat → Int32} : (mW cI cZ cS cC cJ a v)[51]? = some (a 51, .inl (cI, 12, .inl (v 51))) := mW_at (by decide)
theorem at_52 {cI cZ cS cC cJ : ClassId} {a : Nat → Nat} {v : Nat → Nat → Int32} : (mW cI cZ cS cC cJ a v)[52]? = some (a 52, .inl (cI, 12, .inl (v 52))) := mW_at (by decide)
theorem at_53 {cI cZ cS cC cJ : ClassId} {a : Nat → Nat} {v : Nat → Nat → Int32} : (mW cI cZ cS cC cJ a v)[53]? = some (a 53, .inl (cI, 12, .inl (v 53))) := mW_at (by decide)
theorem at_54 {cI cZ cS cC cJ : ClassId} {a : Nat → Nat} {v : Nat → Nat → Int32} : (mW cI cZ cS cC cJ a v)[54]? = some (a 54, .inl (cI, 12, .inl (v 54))) := mW_at (by decide)
theorem at_55 {cI cZ cS cC cJ : ClassId} {a : Nat → Nat} {v : Nat → Nat → Int32} : (mW cI cZ cS cC cJ a v)[55]? = some (a 55, .inl (cI, 12, .inl (v 55))) := mW_at (by decide)
theorem at_56 {cI cZ cS cC cJ : ClassId} {a : Nat → Nat} {v : Nat → Nat → Int32} : (mW cI cZ cS cC cJ a v)[56]? = some (a 56, .inl (cI, 12, .inl (v 56))) := mW_at (by decide)
theorem at_57 {cI cZ cS cC cJ : ClassId} {a : Nat → Nat} {v : Nat → Nat → Int32} : (mW cI cZ cS cC cJ a v)[57]? = some (a 57, .inl (cI, 12, .inl (v 57))) := mW_at (by decide)
theorem at_58 {cI cZ cS cC cJ : ClassId} {a : Nat → Nat} {v : Nat → Nat → Int32} : (mW cI cZ cS cC cJ a v)[58]? = some (a 58, .inl (cZ, 12, .inl (v 58))) := mW_at (by decide)
theorem at_59 {cI cZ cS cC cJ : ClassId} {a : Nat → Nat} {v : Nat → Nat → Int32} : (mW cI cZ cS cC cJ a v)[59]? = some (a 59, .inl (cZ, 144, .inl (v 59))) := mW_at (by decide)
theorem at_60 {cI cZ cS cC cJ : ClassId} {a : Nat → Nat} {v : Nat → Nat → Int32} : (mW cI cZ cS cC cJ a v)[60]? = some (a 60, .inl (cZ, 17, .inl (v 60))) := mW_at (by decide)
theorem at_61 {cI cZ cS cC cJ : ClassId} {a : Nat → Nat} {v : Nat → Nat → Int32} : (mW cI cZ cS cC cJ a v)[61]? = some (a 61, .inl (cI, 120, .inl (v 61))) := mW_at (by decide)
theorem at_62 {cI cZ cS cC cJ : ClassId} {a : Nat → Nat} {v : Nat → Nat → Int32} : (mW cI cZ cS cC cJ a v)[62]? = some (a 62, .inl (cI, 72, .inl (v 62))) := mW_at (by decide)
theorem at_63 {cI cZ cS cC cJ : ClassId} {a : Nat → Nat} {v : Nat → Nat → Int32} : (mW cI cZ cS cC cJ a v)[63]? = some (a 63, .inl (cI, 72, .inl (v 63))) := mW_at (by decide)
theorem at_64 {cI cZ cS cC cJ : ClassId} {a : Nat → Nat} {v : Nat → Nat → Int32} : (mW cI cZ cS cC cJ a v)[64]? = some (a 64, .inl (cI, 16, .inl (v 64))) := mW_at (by decide)
theorem at_65 {cI cZ cS cC cJ : ClassId} {a : Nat → Nat} {v : Nat → Nat → Int32} : (mW cI cZ cS cC cJ a v)[65]? = some (a 65, .inl (cI, 72, .inl (v 65))) := mW_at (by decide)
theorem at_66 {cI cZ cS cC cJ : ClassId} {a : Nat → Nat} {v : Nat → Nat → Int32} : (mW cI cZ cS cC cJ a v)[66]? = some (a 66, .inl (cI, 72, .inl (v 66))) := mW_at (by decide)
theorem at_67 {cI cZ cS cC cJ : ClassId} {a : Nat → Nat} {v : Nat → Nat → Int32} : (mW cI cZ cS cC cJ a v)[67]? = some (a 67, .inl (cI, 600, .inl (v 67))) := mW_at (by decide)
theorem at_68 {cI cZ cS cC cJ : ClassId} {a : Nat → Nat} {v : Nat → Nat → Int32} : (mW cI cZ cS cC cJ a v)[68]? = some (a 68, .inl (cI, 600, .inl (v 68))) := mW_at (by decide)
theorem at_69 {cI cZ cS cC cJ : ClassId} {a : Nat → Nat} {v : Nat → Nat → Int32} : (mW cI cZ cS cC cJ a v)[69]? = some (a 69, .inl (cI, 600, .inl (v 69))) := mW_at (by decide)
theorem at_70 {cI cZ cS cC cJ : ClassId} {a : Nat → Nat} {v : Nat → Nat → Int32} : (mW cI cZ cS cC cJ a v)[70]? = some (a 70, .inl (cI, 600, .inl (v 70))) := mW_at (by decide)
theorem at_71 {cI cZ cS cC cJ : ClassId} {a : Nat → Nat} {v : Nat → Nat → Int32} : (mW cI cZ cS cC cJ a v)[71]? = some (a 71, .inl (cI, 600, .inl (v 71))) := mW_at (by decide)
theorem at_72 {cI cZ cS cC cJ : ClassId} {a : Nat → Nat} {v : Nat → Nat → Int32} : (mW cI cZ cS cC cJ a v)[72]? = some (a 72, .inl (cZ, 600, .inl (v 72))) := mW_at (by decide)
theorem at_73 {cI cZ cS cC cJ : ClassId} {a : Nat → Nat} {v : Nat → Nat → Int32} : (mW cI cZ cS cC cJ a v)[73]? = some (a 73, .inl (cI, 500, .inl (v 73))) := mW_at (by decide)
theorem at_74 {cI cZ cS cC cJ : ClassId} {a : Nat → Nat} {v : Nat → Nat → Int32} : (mW cI cZ cS cC cJ a v)[74]? = some (a 74, .inl (cI, 500, .inl (v 74))) := mW_at (by decide)
theorem at_75 {cI cZ cS cC cJ : ClassId} {a : Nat → Nat} {v : Nat → Nat → Int32} : (mW cI cZ cS cC cJ a v)[75]? = some (a 75, .inl (cI, 500, .inl (v 75))) := mW_at (by decide)
theorem at_76 {cI cZ cS cC cJ : ClassId} {a : Nat → Nat} {v : Nat → Nat → Int32} : (mW cI cZ cS cC cJ a v)[76]? = some (a 76, .inl (cI, 500, .inl (v 76))) := mW_at (by decide)
theorem at_77 {cI cZ cS cC cJ : ClassId} {a : Nat → Nat} {v : Nat → Nat → Int32} : (mW cI cZ cS cC cJ a v)[77]? = some (a 77, .inl (cZ, 500, .inl (v 77))) := mW_at (by decide)
theorem at_78 {cI cZ cS cC cJ : ClassId} {a : Nat → Nat} {v : Nat → Nat → Int32} : (mW cI cZ cS cC cJ a v)[78]? = some (a 78, .inl (cZ, 12, .inl (v 78))) := mW_at (by decide)
theorem at_79 {cI cZ cS cC cJ : ClassId} {a : Nat → Nat} {v : Nat → Nat → Int32} : (mW cI cZ cS cC cJ a v)[79]? = some (a 79, .inl (cZ, 12, .inl (v 79))) := mW_at (by decide)
theorem at_80 {cI cZ cS cC cJ : ClassId} {a : Nat → Nat} {v : Nat → Nat → Int32} : (mW cI cZ cS cC cJ a v)[80]? = some (a 80, .inl (cJ, 1, .inr (.inl (fun j => (v 80 j).toInt64)))) := mW_at (by decide)
def kH (v0 v : Nat → Nat → Int32) : Prop := (0 ≤ (v 0 5).toInt ∧ (v 0 5).toInt ≤ 12) ∧ ∀ c, 45 ≤ c → v c = v0 c
def kJ (v0 v : Nat → Nat → Int32) : Prop := kH v0 v ∧ v 4 = v0 4
def kX (v0 v : Nat → Nat → Int32) : Prop := v 0 5 = v0 0 5 ∧ v 0 6 = v0 0 6 ∧ v 5 = v0 5
def kI (v0 v : Nat → Nat → Int32) : Prop := kJ v0 v ∧ kX v0 v
theorem kH.sc {v0 v : Nat → Nat → Int32} (h : kH v0 v) : 0 ≤ (v 0 5).toInt ∧ (v 0 5).toInt ≤ 12 := h.1
theorem kJ.sc {v0 v : Nat → Nat → Int32} (h : kJ v0 v) : 0 ≤ (v 0 5).toInt ∧ (v 0 5).toInt ≤ 12 := h.1.1
theorem kI.sc {v0 v : Nat → Nat → Int32} (h : kI v0 v) : 0 ≤ (v 0 5).toInt ∧ (v 0 5).toInt ≤ 12 := h.1.1.1
theorem kH.fr {v0 v : Nat → Nat → Int32} (h : kH v0 v) : ∀ c, 45 ≤ c → v c = v0 c := h.2
theorem kJ.fr {v0 v : Nat → Nat → Int32} (h : kJ v0 v) : ∀ c, 45 ≤ c → v c = v0 c := h.1.2
theorem kI.fr {v0 v : Nat → Nat → Int32} (h : kI v0 v) : ∀ c, 45 ≤ c → v c = v0 c := h.1.1.2
theorem kH.self {v0 v : Nat → Nat → Int32} (h : kH v0 v) : kI v v := ⟨⟨⟨h.1, fun _ _ => rfl⟩, rfl⟩, rfl, rfl, rfl⟩
theorem kJ.self {v0 v : Nat → Nat → Int32} (h : kJ v0 v) : kI v v := h.1.self
theorem kI.self {v0 v : Nat → Nat → Int32} (h : kI v0 v) : kI v v := h.1.1.self
theorem kI.toJ {v0 v : Nat → Nat → Int32} (h : kI v0 v) : kJ v0 v := h.1
theorem kI.toH {v0 v : Nat → Nat → Int32} (h : kI v0 v) : kH v0 v := h.1.1
theorem kH.trans {v0 v u : Nat → Nat → Int32} (h : kH v0 v) (h2 : kH v u) : kH v0 u := ⟨h2.1, fun c hc => (h2.2 c hc).trans (h.2 c hc)⟩
theorem kJ.trans {v0 v u : Nat → Nat → Int32} (h : kJ v0 v) (h2 : kI v u) : kJ v0 u := ⟨h.1.trans h2.1.1, h2.1.2.trans h.2⟩
theorem kI.trans {v0 v u : Nat → Nat → Int32} (h : kI v0 v) (h2 : kI v u) : kI v0 u := ⟨h.1.trans h2, h2.2.1.trans h.2.1, h2.2.2.1.trans h.2.2.1, h2.2.2.2.trans h.2.2.2⟩
theorem kH.put {v0 v v1 : Nat → Nat → Int32} {c : Nat} {x : Nat → Int32} (h : kH v0 v) (e : v1 = mU v c x) (hc : 0 < c ∧ c < 45) : kH v0 v1 := by
  subst e
  refine ⟨by rw [mU_ne _ _ (by omega)]; exact h.1, fun d hd => by rw [mU_ne _ _ (by omega)]; exact h.2 d hd⟩
theorem kJ.put {v0 v v1 : Nat → Nat → Int32} {c : Nat} {x : Nat → Int32} (h : kJ v0 v) (e : v1 = mU v c x) (hc : 0 < c ∧ c < 45 ∧ c ≠ 4) : kJ v0 v1 := by
  refine ⟨h.1.put e ⟨hc.1, hc.2.1⟩, ?_⟩
  subst e
  rw [mU_ne _ _ (by omega)]
  exact h.2
theorem kI.put {v0 v v1 : Nat → Nat → Int32} {c : Nat} {x : Nat → Int32} (h : kI v0 v) (e : v1 = mU v c x) (hc : 0 < c ∧ c < 45 ∧ c ≠ 5 ∧ c ≠ 4) : kI v0 v1 := by
  refine ⟨h.1.put e ⟨hc.1, hc.2.1, hc.2.2.2⟩, ?_⟩
  subst e
  exact ⟨by rw [mU_ne _ _ (by omega)]; exact h.2.1, by rw [mU_ne _ _ (by omega)]; exact h.2.2.1, by rw [mU_ne _ _ (by omega)]; exact h.2.2.2⟩
theorem kJ.putK {v0 v v1 : Nat → Nat → Int32} {k : Nat} {y : Int32} (h : kJ v0 v) (e : v1 = mU v 0 (upd (v 0) k y)) (hk : 5 ≠ k ∨ (0 ≤ y.toInt ∧ y.toInt ≤ 12)) : kJ v0 v1 := by
  subst e
  refine ⟨⟨?_, fun d hd => by rw [mU_ne _ _ (by omega)]; exact h.1.2 d hd⟩, by rw [mU_ne _ _ (by omega)]; exact h.2⟩
  rw [mU_self]
  by_cases z : 5 = k
  · subst z
    rcases hk with hk | hk
    · exact absurd rfl hk
    · simpa [upd] using hk
  · simpa [upd, z] using h.1.1
theorem kI.putK {v0 v v1 : Nat → Nat → Int32} {k : Nat} {y : Int32} (h : kI v0 v) (e : v1 = mU v 0 (upd (v 0) k y)) (hk : 5 ≠ k ∧ 6 ≠ k) : kI v0 v1 := by
  refine ⟨h.1.putK e (Or.inl hk.1), ?_⟩
  subst e
  rw [kX, mU_self, mU_ne (d := 5) _ _ (by decide)]
  simp only [upd, if_neg hk.1, if_neg hk.2]
  exact h.2
def mN (U : State) : Prop := va_Nw (.methodLinkNest RX3 42 yX5_isIn RX5) U ∧ va_Nw (.methodLinkNest RX4 15 yX5_isIn RX5) U ∧ va_Nw (.methodLinkNest RX0 67 yX5_isIn RX5) U
theorem kt_lt12 {k t : Int32} {i : Nat} (ht : 0 ≤ t.toInt ∧ t.toInt ≤ 12) (ek : k = nI i) (hi : i ≤ 12) (c : ¬ t ≤ k) : i < 12 := by
  rw [Int32.le_iff_toInt_le, ek, nI_toInt (by omega)] at c
  omega
theorem kt_idx {x : Int32} {n : Nat} (h0 : 0 ≤ x.toInt) (h1 : x.toInt < n) : ∃ i, i < n ∧ x = nI i := by
  obtain ⟨j, hj, e⟩ := nI_of (x := x) (by rw [Int32.lt_iff_toInt_lt]; show ¬ x.toInt < 0; omega)
  refine ⟨j, ?_, e⟩
  rw [e, nI_toInt hj] at h1
  omega
theorem kt_inN {x : Int32} {i n : Nat} (e : x = nI i) (h : i < n) (hn : n < 2 ^ 31) : vp_in x n := by
  rw [e]
  exact vp_in_nI h hn
theorem m_aldS {p : Program} {l : Launch} {e : Env} {R : Room} {s : State} {m : MethodId} {args : Array Value} {below : List Frame} {meth : Method} {c : Code} {H : Heap} {locs : List Loc} {cells slots : Nat} {Q : State → Prop} {cc : ByteArray} {pc : Nat} {ls : Array Slot} {rest : List Value} {D : va_G} {cl : List vw_C} {cI cZ cS cC cJ : ClassId} {a : Nat → Nat} {v : Nat → Nat → Int32} (hexec : p.tables.exec = Jvm.exec) (hb : c.code = cc) (hK : va_K D cl [(cI, .int), (cZ, .boolean), (cS, .object RX3), (cC, .object RX0), (cJ, .long)] s) (hP : va_P D cl (mW cI cZ cS cC cJ a v) H) {x : Int32} {i : Nat} (ex : x = nI i) (hi : i < 12) (hdg : decode cc pc = .ok (.aaload, 1)) (kk : W p l e R s m args below meth c H locs cells slots Q (F0 m (pc + 1) ls (.ref (a (10 + 3 * i)) :: rest))) : W p l e R s m args below meth c H locs cells slots Q (F0 m pc ls (.int x :: .ref (a 1) :: rest)) := by
  subst ex
  refine va_aldq hexec hb hK hP 1 2 at_1 rfl (vp_in_nI hi (by decide)) hdg ?_
  rw [nI_clamp (by omega)]
  exact kk
theorem m_aldC {p : Program} {l : Launch} {e : Env} {R : Room} {s : State} {m : MethodId} {args : Array Value} {below : List Frame} {meth : Method} {c : Code} {H : Heap} {locs : List Loc} {cells slots : Nat} {Q : State → Prop} {cc : ByteArray} {pc : Nat} {ls : Array Slot} {rest : List Value} {D : va_G} {cl : List vw_C} {cI cZ cS cC cJ : ClassId} {a : Nat → Nat} {v : Nat → Nat → Int32} (hexec : p.tables.exec = Jvm.exec) (hb : c.code = cc) (hK : va_K D cl [(cI, .int), (cZ, .boolean), (cS, .object RX3), (cC, .object RX0), (cJ, .long)] s) (hP : va_P D cl (mW cI cZ cS cC cJ a v) H) {x : Int32} {i : Nat} (ex : x = nI i) (hi : i < 12) (hdg : decode cc pc = .ok (.aaload, 1)) (kk : W p l e R s m args below meth c H locs cells slots Q (F0 m (pc + 1) ls (.ref (a (9 + 3 * i)) :: rest))) : W p l e R s m args below meth c H locs cells slots Q (F0 m pc ls (.int x :: .ref (a 2) :: rest)) := by
  subst ex
  refine va_aldq hexec hb hK hP 2 3 at_2 rfl (vp_in_nI hi (by decide)) hdg ?_
  rw [nI_clamp (by omega)]
  exact kk
def dnb (x : Int32) (w : Nat) : Prop := (x >>> (nI w &&& 31)) &&& 1 ≠ 0
theorem dnb_e (w : Nat) (hw : w < 17) : (nI w &&& 31).toBitVec.smod 32 = BitVec.ofNat 32 w := by
  match w, hw with
  | 0, _ => decide
  | 1, _ => decide
  | 2, _ => decide
  | 3, _ => decide
  | 4, _ => decide
  | 5, _ => decide
  | 6, _ => decide
  | 7, _ => decide
  | 8, _ => decide
  | 9, _ => decide
  | 10, _ => decide
  | 11, _ => decide
  | 12, _ => decide
  | 13, _ => decide
  | 14, _ => decide
  | 15, _ => decide
  | 16, _ => decide
  | w + 17, h => exact absurd h (by omega)
theorem dnb_iff {x : Int32} {w : Nat} (hw : w < 17) : dnb x w ↔ x.toBitVec.getLsbD w = true := by
  have h : ((x >>> (nI w &&& 31)) &&& 1).toBitVec = (x.toBitVec.sshiftRight w) &&& 1#32 := by
    rw [Int32.toBitVec_and, Int32.toBitVec_shiftRight, dnb_e w hw, BitVec.sshiftRight_eq']
    have : (BitVec.ofNat 32 w).toNat = w := by simp; omega
    rw [this]
    rfl
  unfold dnb
  rw [Ne, ← Int32.toBitVec_inj, h, BitVec.and_one_eq_setWidth_ofBool_getLsbD, BitVec.getLsbD_sshiftRight]
  simp only [Nat.add_zero]
  have h0 : (w + 0) < 32 := by omega
  cases hb : x.toBitVec.getLsbD w
  · simp [hb, h0, show w < 32 by omega]
  · simp [hb, h0, show w < 32 by omega]

theorem dnb_1 (w : Nat) (hw : w < 17) : ((1 : Int32) <<< (nI w &&& 31)).toBitVec = BitVec.twoPow 32 w := by
  match w, hw with
  | 0, _ => decide
  | 1, _ => decide
  | 2, _ => decide
  | 3, _ => decide
  | 4, _ => decide
  | 5, _ => decide
  | 6, _ => decide
  | 7, _ => decide
  | 8, _ => decide
  | 9, _ => decide
  | 10, _ => decide
  | 11, _ => decide
  | 12, _ => decide
  | 13, _ => decide
  | 14, _ => decide
  | 15, _ => decide
  | 16, _ => decide
  | w + 17, h => exact absurd h (by omega)
theorem dnb_xor {x : Int32} {w u : Nat} (hw : w < 17) (hu : u < 17) : dnb (x ^^^ ((1 : Int32) <<< (nI w &&& 31))) u ↔ (if u = w then ¬ dnb x u else dnb x u) := by
  rw [dnb_iff hu, Int32.toBitVec_xor, dnb_1 w hw, BitVec.getLsbD_xor, BitVec.getLsbD_twoPow]
  by_cases c : u = w
  · subst c
    rw [if_pos rfl, dnb_iff hu]
    cases x.toBitVec.getLsbD u <;> simp [show u < 32 by omega]
  · rw [if_neg c, dnb_iff hu]
    cases x.toBitVec.getLsbD u <;> simp [show ¬ w = u from fun e => c e.symm]

theorem dnb_or {x y : Int32} {u : Nat} (hu : u < 17) : dnb (x ||| y) u ↔ dnb x u ∨ dnb y u := by
  rw [dnb_iff (x := x ||| y) hu, dnb_iff (x := x) hu, dnb_iff (x := y) hu, Int32.toBitVec_or, BitVec.getLsbD_or, Bool.or_eq_true]
theorem dnb_0 {u : Nat} (hu : u < 17) : ¬ dnb 0 u := by
  rw [dnb_iff hu]
  show ¬ (0#32).getLsbD u = true
  simp
theorem dnb_bit {w u : Nat} (hw : w < 17) (hu : u < 17) : dnb ((1 : Int32) <<< (nI w &&& 31)) u ↔ u = w := by
  rw [dnb_iff hu, dnb_1 w hw, BitVec.getLsbD_twoPow]
  by_cases c : u = w
  · subst c; simp [show u < 32 by omega]
  · simp [show ¬ w = u from fun e => c e.symm, c]
theorem dnb_andn {x : Int32} {w u : Nat} (hw : w < 17) (hu : u < 17) : dnb (x &&& (((1 : Int32) <<< (nI w &&& 31)) ^^^ (-1))) u ↔ (u ≠ w ∧ dnb x u) := by
  have h1 : (-1 : Int32).toBitVec = BitVec.allOnes 32 := by decide
  rw [dnb_iff (x := x &&& (((1 : Int32) <<< (nI w &&& 31)) ^^^ (-1))) hu, dnb_iff (x := x) hu, Int32.toBitVec_and, Int32.toBitVec_xor, dnb_1 w hw, h1, BitVec.getLsbD_and, BitVec.getLsbD_xor, BitVec.getLsbD_twoPow, BitVec.getLsbD_allOnes]
  by_cases c : u = w
  · subst c; simp [show u < 32 by omega]
  · cases x.toBitVec.getLsbD u <;> simp [show ¬ w = u from fun e => c e.symm, c, show u < 32 by omega]
def ck (p : Int32) : Nat := p.toNatClampNeg
def isS (n p : Int32) : Prop := 0 ≤ p.toInt ∧ p.toInt < n.toInt
theorem ck_of {p : Int32} {i : Nat} (e : p = nI i) (h : i < 2 ^ 31) : ck p = i := by
  unfold ck
  rw [e, nI_clamp h]
theorem isS_of {n p : Int32} {i : Nat} (e : p = nI i) (h : i < 2 ^ 31) (hl : (i : Int) < n.toInt) : isS n p := by
  unfold isS
  rw [e, nI_toInt h]
  exact ⟨by omega, hl⟩
/-- what one comes to by one edge or more: the smallest set that is closed -/
def Rch (e : Nat → Nat → Prop) (s y : Nat) : Prop := ∀ P : Nat → Prop, (∀ z, z < 12 → e s z → P z) → (∀ x z, x < 12 → z < 12 → P x → e x z → P z) → P y
theorem Rch.base {e : Nat → Nat → Prop} {s y : Nat} (hy : y < 12) (h : e s y) : Rch e s y := fun _ h1 _ => h1 y hy h
theorem Rch.step {e : Nat → Nat → Prop} {s x y : Nat} (hx : x < 12) (hy : y < 12) (h : Rch e s x) (he : e x y) : Rch e s y := fun P h1 h2 => h2 x y hx hy (h P h1 h2) he
theorem Rch.mono {e f : Nat → Nat → Prop} {s y : Nat} (hs : s < 12) (h : ∀ x z, x < 12 → z < 12 → e x z → f x z) (k : Rch e s y) : Rch f s y := fun P h1 h2 => k P (fun z hz q => h1 z hz (h s z hs hz q)) (fun x z hx hz p q => h2 x z hx hz p (h x z hx hz q))
theorem Rch.iff {e f : Nat → Nat → Prop} {s y : Nat} (hs : s < 12) (h : ∀ x z, x < 12 → z < 12 → (e x z ↔ f x z)) : Rch e s y ↔ Rch f s y := ⟨Rch.mono hs (fun x z hx hz => (h x z hx hz).mp), Rch.mono hs (fun x z hx hz => (h x z hx hz).mpr)⟩
def hgS (n : Int32) (e : Nat → Nat → Prop) (p0 p1 : Int32) : Prop := isS n p0 ∧ isS n p1 ∧ Rch e (ck p0) (ck p1)
def okK (n : Int32) (e : Nat → Nat → Prop) (p0 p1 p2 : Int32) : Prop := isS n p0 ∧ isS n p1 ∧ ¬ (e (ck p0) (ck p1) ↔ p2 = 1) ∧ (p2 ≠ 0 → p0 ≠ p1 ∧ ¬ Rch e (ck p1) (ck p0))
def okR (n : Int32) (f : Nat → Int32) (p0 p1 p2 : Int32) : Prop := isS n p0 ∧ isS n p1 ∧ f (12 * ck p0 + ck p1) ≠ p2 ∧ (p2 ≠ 0 → p0 ≠ p1 ∧ ¬ Rch (fun x z => f (12 * x + z) ≠ 0) (ck p1) (ck p0))
/-- how many of the first bits are set -/
def cb (x : Int32) : Nat → Nat
  | 0 => 0
  | n + 1 => cb x n + (if x.toBitVec.getLsbD n = true then 1 else 0)
theorem cb_mono {x y : Int32} : ∀ n, n ≤ 12 → (∀ u, u < n → dnb x u → dnb y u) → cb x n ≤ cb y n
  | 0, _, _ => Nat.le_refl _
  | n + 1, hn, h => by
    have ih := cb_mono (x := x) (y := y) n (by omega) (fun u hu => h u (by omega))
    have hh : x.toBitVec.getLsbD n = true → y.toBitVec.getLsbD n = true := fun z => (dnb_iff (by omega)).mp (h n (by omega) ((dnb_iff (by omega)).mpr z))
    simp only [cb]
    by_cases c : x.toBitVec.getLsbD n = true
    · rw [if_pos c, if_pos (hh c)]; omega
    · rw [if_neg c]; split <;> omega
theorem cb_lt {x y : Int32} {w : Nat} (h1 : ¬ dnb x w) (h2 : dnb y w) : ∀ n, n ≤ 12 → w < n → (∀ u, u < n → dnb x u → dnb y u) → cb x n < cb y n
  | 0, _, h, _ => absurd h (by omega)
  | n + 1, hn, hw, h => by
    simp only [cb]
    by_cases c : w = n
    · subst c
      have ih := cb_mono (x := x) (y := y) w (by omega) (fun u hu => h u (by omega))
      rw [dnb_iff (by omega)] at h1 h2
      rw [if_neg h1, if_pos h2]; omega
    · have ih := cb_lt h1 h2 n (by omega) (by omega) (fun u hu => h u (by omega))
      have hh : x.toBitVec.getLsbD n = true → y.toBitVec.getLsbD n = true := fun z => (dnb_iff (by omega)).mp (h n (by omega) ((dnb_iff (by omega)).mpr z))
      by_cases c : x.toBitVec.getLsbD n = true
      · rw [if_pos c, if_pos (hh c)]; omega
      · rw [if_neg c]; split <;> omega
theorem cb_le {x : Int32} : ∀ n, cb x n ≤ n
  | 0 => Nat.le_refl _
  | n + 1 => by
    have ih := cb_le (x := x) n
    simp only [cb]
    split <;> omega
theorem cb_all {x : Int32} : ∀ n, n ≤ 12 → n ≤ cb x n → ∀ u, u < n → dnb x u
  | 0, _, _, u, hu => absurd hu (by omega)
  | n + 1, hn, h, u, hu => by
    have h0 := cb_le (x := x) n
    simp only [cb] at h
    by_cases c : x.toBitVec.getLsbD n = true
    · rw [if_pos c] at h
      by_cases z : u = n
      · subst z; exact (dnb_iff (by omega)).mpr c
      · exact cb_all n (by omega) (by omega) u (by omega)
    · rw [if_neg c] at h; omega
def Cl (d : Nat → Int32) (R : Int32) : Prop := ∀ x y, x < 12 → y < 12 → dnb R x → dnb (d x) y → dnb R y
def jO (d : Nat → Int32) (s : Nat) (B R : Int32) (i : Nat) : Prop := (∀ y, y < 12 → dnb (d s) y → dnb R y) ∧ (∀ y, y < 12 → dnb R y → Rch (fun x z => dnb (d x) z) s y) ∧ (R = B → Cl d R) ∧ (Cl d R ∨ i ≤ cb R 12)
def jI (d : Nat → Int32) (B R : Int32) (i : Nat) : Prop := ∀ y, y < 12 → (dnb R y ↔ dnb B y ∨ ∃ x, x < i ∧ dnb B x ∧ dnb (d x) y)
theorem jO.init {d : Nat → Int32} {s : Nat} : jO d s 0 (d s) 0 := ⟨fun _ _ h => h, fun _ hy h => Rch.base hy h, fun e x _ hx _ h _ => absurd h (by rw [e]; exact dnb_0 (by omega)), Or.inr (Nat.zero_le _)⟩
theorem jI.init {d : Nat → Int32} {B : Int32} : jI d B B 0 := fun _ _ => ⟨Or.inl, fun h => h.elim id (fun ⟨x, hx, _⟩ => absurd hx (by omega))⟩
theorem jI.yes {d : Nat → Int32} {B R R' : Int32} {i : Nat} (h : jI d B R i) (hb : dnb B i) (e : R' = R ||| d i) : jI d B R' (i + 1) := fun y hy => by
  rw [e, dnb_or (by omega), h y hy]
  constructor
  · rintro ((z | ⟨x, hx, z1, z2⟩) | z)
    · exact Or.inl z
    · exact Or.inr ⟨x, by omega, z1, z2⟩
    · exact Or.inr ⟨i, by omega, hb, z⟩
  · rintro (z | ⟨x, hx, z1, z2⟩)
    · exact Or.inl (Or.inl z)
    · by_cases c : x = i
      · subst c; exact Or.inr z2
      · exact Or.inl (Or.inr ⟨x, by omega, z1, z2⟩)
theorem jI.no {d : Nat → Int32} {B R R' : Int32} {i : Nat} (h : jI d B R i) (hb : ¬ dnb B i) (e : R' = R ||| 0) : jI d B R' (i + 1) := fun y hy => by
  rw [e, dnb_or (by omega), h y hy]
  constructor
  · rintro ((z | ⟨x, hx, z1, z2⟩) | z)
    · exact Or.inl z
    · exact Or.inr ⟨x, by omega, z1, z2⟩
    · exact absurd z (dnb_0 (by omega))
  · rintro (z | ⟨x, hx, z1, z2⟩)
    · exact Or.inl (Or.inl z)
    · by_cases c : x = i
      · subst c; exact absurd z1 hb
      · exact Or.inl (Or.inr ⟨x, by omega, z1, z2⟩)
theorem jI.done {d : Nat → Int32} {s : Nat} {B0 R0 R : Int32} {i n : Nat} (o : jO d s B0 R0 i) (j : jI d R0 R n) (hn : 12 ≤ n) (hn2 : n ≤ 12) : jO d s R0 R (i + 1) := by
  have hcl : Cl d R0 → Cl d R := fun c x y hx hy h he => by
    have h0 : dnb R0 x := by
      rcases (j x hx).mp h with z | ⟨x', hx', z1, z2⟩
      · exact z
      · exact c x' x (by omega) hx z1 z2
    exact (j y hy).mpr (Or.inr ⟨x, by omega, h0, he⟩)
  refine ⟨fun y hy h => (j y hy).mpr (Or.inl (o.1 y hy h)), fun y hy h => ?_, fun e x y hx hy h he => (j y hy).mpr (Or.inr ⟨x, by omega, by rw [← e]; exact h, he⟩), ?_⟩
  · rcases (j y hy).mp h with z | ⟨x, hx, z1, z2⟩
    · exact o.2.1 y hy z
    · exact Rch.step (by omega) hy (o.2.1 x (by omega) z1) z2
  · rcases o.2.2.2 with c | c
    · exact Or.inl (hcl c)
    · by_cases c2 : i + 1 ≤ cb R 12
      · exact Or.inr c2
      · refine Or.inl (hcl fun x y hx hy h he => Classical.byContradiction fun hno => ?_)
        have := cb_lt (x := R0) (y := R) (w := y) hno ((j y hy).mpr (Or.inr ⟨x, by omega, h, he⟩)) 12 (Nat.le_refl _) hy (fun u hu z => (j u hu).mpr (Or.inl z))
        omega
theorem jO.cl {d : Nat → Int32} {s : Nat} {B R : Int32} {i : Nat} (o : jO d s B R i) (hi : 12 ≤ i) : Cl d R := by
  rcases o.2.2.2 with c | c
  · exact c
  · exact fun x y hx hy _ _ => cb_all 12 (Nat.le_refl _) (by omega) y hy
theorem jO.fin {d : Nat → Int32} {s : Nat} {B R : Int32} {i w : Nat} (o : jO d s B R i) (c : Cl d R) (hw : w < 12) : dnb R w ↔ Rch (fun x z => dnb (d x) z) s w := ⟨o.2.1 w hw, fun h => h (fun y => dnb R y) (fun z hz e => o.1 z hz e) (fun x z hx hz p e => c x z hx hz p e)⟩
/-- behind Web.put -/
theorem put_fin {v u : Nat → Nat → Int32} {i0 w : Nat} {q p2 : Int32} (hu : u = mU v 4 (upd (v 4) i0 q)) (hq : ∀ y, y < 12 → (dnb q y ↔ if y = w then p2 ≠ 0 else dnb (v 4 i0) y)) (hb : p2 = 0 ∨ p2 = 1) : u 0 = v 0 ∧ u 5 = v 5 ∧ ∀ x y, x < 12 → y < 12 → (dnb (u 4 x) y ↔ if x = i0 ∧ y = w then p2 = 1 else dnb (v 4 x) y) := by
  subst hu
  refine ⟨mU_ne _ _ (by decide), mU_ne _ _ (by decide), fun x y hx hy => ?_⟩
  rw [mU_self]
  by_cases c : x = i0
  · subst c
    simp only [upd, if_true, true_and]
    rw [hq y hy]
    by_cases c2 : y = w
    · simp only [if_pos c2]
      rcases hb with rfl | rfl
      · exact ⟨fun z => absurd rfl z, fun z => absurd z (by decide)⟩
      · exact ⟨fun _ => rfl, fun _ => by decide⟩
    · simp only [if_neg c2]
  · simp only [upd, if_neg c, c, false_and, if_false]
abbrev sp_bad (p0 p1 p2 p3 n : Int32) : Prop := p0 < 0 ∨ 1 < p0 ∨ p1 < 0 ∨ 1023 < p1 ∨ p2 < 1 ∨ 63 < p2 ∨ p3 < 1 ∨ 10000 < p3 ∨ 12 ≤ n
def sp_sec (p0 p1 p2 p3 n : Int32) : Int32 := if sp_bad p0 p1 p2 p3 n then -1 else n
def sn_sec (p0 p1 p2 p3 n : Int32) : Int32 := if sp_bad p0 p1 p2 p3 n then n else n + 1
abbrev tk_bad (p n : Int32) : Prop := p.toInt < 0 ∨ 2000 < p.toInt ∨ 100000 < n.toInt + p.toInt
def sp_tk (p n : Int32) : Int32 := if tk_bad p n then -1 else n + p
def sn_tk (p n : Int32) : Int32 := if tk_bad p n then n else n + p
theorem L2 : (2 : Int32).toInt = 2 := rfl
theorem L3 : (3 : Int32).toInt = 3 := rfl
theorem L4 : (4 : Int32).toInt = 4 := rfl
theorem L6 : (6 : Int32).toInt = 6 := rfl
theorem L9 : (9 : Int32).toInt = 9 := rfl
theorem kt_heap {D : va_G} {cl : List vw_C} {ws : va_W} {t : State} {H : Heap} (ht : t.heap = H) (hP : va_P D cl ws H) : va_P D cl ws t.heap := by
  rw [ht]
  exact hP
theorem kt_heap2 {D : va_G} {cl : List vw_C} {ws : va_W} {t : State} {H : Heap} (ht : t.heap = H) (hP : va_P D cl ws t.heap) : va_P D cl ws H := by
  rw [← ht]
  exact hP
theorem mN_same {U : State} {g : JFrame} {mk : MethodId} {av : Array Value} (h : mN U) : mN (U.calling g mk av) := ⟨va_Nw.same rfl rfl h.1, va_Nw.same rfl rfl h.2.1, va_Nw.same rfl rfl h.2.2⟩
theorem mN_warm {s U : State} (hW : s.WarmedH U.vm) (h : mN s) : mN U := ⟨va_Nw.warmM hW h.1, va_Nw.warmM hW h.2.1, va_Nw.warmM hW h.2.2⟩
theorem kt_inc {x y : Int32} (h : 0 ≤ x.toInt ∧ x.toInt ≤ 12) (c : x < 12) (e : y = x + 1) : 0 ≤ y.toInt ∧ y.toInt ≤ 12 := by
  rw [Int32.lt_iff_toInt_lt, L12] at c
  obtain ⟨i, hi, ei⟩ := kt_idx (x := x) (n := 12) h.1 c
  rw [e, ei, nI_1, nI_toInt (by omega)]
  omega
theorem bit_eq {a b : Int32} (ha : a = 0 ∨ a = 1) (hb : b = 0 ∨ b = 1) (h : a = 1 ↔ b = 1) : a = b := by
  rcases ha with rfl | rfl <;> rcases hb with rfl | rfl
  · rfl
  · exact absurd (h.mpr rfl) (by decide)
  · exact absurd (h.mp rfl) (by decide)
  · rfl
theorem kt_addK {x y : Int32} (hx : -1000000 ≤ x.toInt) (hx2 : x.toInt ≤ 1000000) (hy : y = x + 1) : y.toInt = x.toInt + 1 := by
  rw [hy, Int32.toInt_add, L1]
  exact Int.bmod_eq_of_le (by omega) (by omega)
theorem kt_mn {t x y : Int32} (e : t = if y < x then y else x) : t.toInt ≤ x.toInt := by
  rw [e]
  split
  · next h => rw [Int32.lt_iff_toInt_lt] at h; omega
  · exact Int.le_refl _
theorem kt_mx {t x y : Int32} (e : t = if x < y then y else x) : (x.toInt ≤ t.toInt ∧ y.toInt ≤ t.toInt) ∧ (t.toInt = x.toInt ∨ t.toInt = y.toInt) := by
  rw [e]
  split
  · next h => rw [Int32.lt_iff_toInt_lt] at h; exact ⟨⟨by omega, by omega⟩, Or.inr rfl⟩
  · next h => rw [Int32.lt_iff_toInt_lt] at h; exact ⟨⟨by omega, by omega⟩, Or.inl rfl⟩
theorem kt_add {x y z : Int32} (hx : 0 ≤ x.toInt ∧ x.toInt ≤ 100000) (hy : 0 ≤ y.toInt ∧ y.toInt ≤ 100000) (e : z = x + y) : z.toInt = x.toInt + y.toInt := by
  rw [e, Int32.toInt_add]
  exact Int.bmod_eq_of_le (by omega) (by omega)
theorem kt_sub {x y z : Int32} (hx : 0 ≤ x.toInt ∧ x.toInt ≤ 100000) (hy : 0 ≤ y.toInt ∧ y.toInt ≤ 100000) (e : z = x - y) : z.toInt = x.toInt - y.toInt := by
  rw [e, Int32.toInt_sub]
  exact Int.bmod_eq_of_le (by omega) (by omega)
theorem kt_ltB {k t : Int32} {i N : Nat} (hb : t.toInt ≤ N) (ek : k = nI i) (hi : i ≤ N) (c : ¬ t ≤ k) (hN : N < 2 ^ 31 := by decide) : i < N := by
  rw [Int32.le_iff_toInt_le, ek, nI_toInt (by omega)] at c
  omega
theorem kt_leB {k t : Int32} {i N : Nat} (hb : t.toInt < N) (ek : k = nI i) (hi : i ≤ N) (c : ¬ t < k) (hN : N < 2 ^ 31 := by decide) : i < N := by
  rw [Int32.lt_iff_toInt_lt, ek, nI_toInt (by omega)] at c
  omega
theorem kt_sw_1_5 (x : Int32) : x = 1 ∨ x = 2 ∨ x = 3 ∨ x = 4 ∨ x = 5 ∨ (x.toInt < 1 ∨ 5 < x.toInt) := by
  simp only [← Int32.toInt_inj, show (1 : Int32).toInt = 1 from rfl, show (2 : Int32).toInt = 2 from rfl, show (3 : Int32).toInt = 3 from rfl, show (4 : Int32).toInt = 4 from rfl, show (5 : Int32).toInt = 5 from rfl]
  omega
theorem kt_sw_0_11 (x : Int32) : x = 0 ∨ x = 1 ∨ x = 2 ∨ x = 3 ∨ x = 4 ∨ x = 5 ∨ x = 6 ∨ x = 7 ∨ x = 8 ∨ x = 9 ∨ x = 10 ∨ x = 11 ∨ (x.toInt < 0 ∨ 11 < x.toInt) := by
  simp only [← Int32.toInt_inj, show (0 : Int32).toInt = 0 from rfl, show (1 : Int32).toInt = 1 from rfl, show (2 : Int32).toInt = 2 from rfl, show (3 : Int32).toInt = 3 from rfl, show (4 : Int32).toInt = 4 from rfl, show (5 : Int32).toInt = 5 from rfl, show (6 : Int32).toInt = 6 from rfl, show (7 : Int32).toInt = 7 from rfl, show (8 : Int32).toInt = 8 from rfl, show (9 : Int32).toInt = 9 from rfl, show (10 : Int32).toInt = 10 from rfl, show (11 : Int32).toInt = 11 from rfl]
  omega
theorem kt_sw_0_7 (x : Int32) : x = 0 ∨ x = 1 ∨ x = 2 ∨ x = 3 ∨ x = 4 ∨ x = 5 ∨ x = 6 ∨ x = 7 ∨ (x.toInt < 0 ∨ 7 < x.toInt) := by
  simp only [← Int32.toInt_inj, show (0 : Int32).toInt = 0 from rfl, show (1 : Int32).toInt = 1 from rfl, show (2 : Int32).toInt = 2 from rfl, show (3 : Int32).toInt = 3 from rfl, show (4 : Int32).toInt = 4 from rfl, show (5 : Int32).toInt = 5 from rfl, show (6 : Int32).toInt = 6 from rfl, show (7 : Int32).toInt = 7 from rfl]
  omega
theorem kt_sw_1_4 (x : Int32) : x = 1 ∨ x = 2 ∨ x = 3 ∨ x = 4 ∨ (x.toInt < 1 ∨ 4 < x.toInt) := by
  simp only [← Int32.toInt_inj, show (1 : Int32).toInt = 1 from rfl, show (2 : Int32).toInt = 2 from rfl, show (3 : Int32).toInt = 3 from rfl, show (4 : Int32).toInt = 4 from rfl]
  omega
theorem kt_sw_0_3 (x : Int32) : x = 0 ∨ x = 1 ∨ x = 2 ∨ x = 3 ∨ (x.toInt < 0 ∨ 3 < x.toInt) := by
  simp only [← Int32.toInt_inj, show (0 : Int32).toInt = 0 from rfl, show (1 : Int32).toInt = 1 from rfl, show (2 : Int32).toInt = 2 from rfl, show (3 : Int32).toInt = 3 from rfl]
  omega
