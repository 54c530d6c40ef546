theorem rQ.write {v v1 v2 : Nat → Nat → Int32} {B : Nat → Int} {i : Nat} {y z : Int32} (h : rQ v B) (hb : ∀ x, x < 12 → B x ≤ 40) (hi : i < 12) (e1 : v1 = mU v 45 (upd (v 45) 3 y)) (hy : y = v 45 3 + 1) (e2 : v2 = mU v1 56 (upd (v1 56) i z)) (hz : z = v1 56 i + 1) : rQ v2 (fun x => if x = i then B x + 1 else B x) := by
  have e56 : v1 56 = v 56 := by rw [e1]; exact mU_ne _ _ (by decide)
  rw [e56] at hz e2
  have h45 : v2 45 3 = y := by
    rw [e2, mU_ne _ _ (by decide), e1, mU_self]
    simp [upd]
  have h56 : v2 56 = upd (v 56) i z := by rw [e2, mU_self]
  have hle := h.le hb
  have hall : ∀ x, x < 12 → (v 56 x).toInt ≤ 40 := fun x hx => Int.le_trans (h.2.2 x hx) (hb x hx)
  have hlow := smR_low (f := v 56) hi (b := 40) (by decide) hall
  have hup := hall i hi
  have hs := h.1
  have h0 := h.2.1
  have ty := kt_addI (x := v 45 3) (by omega) (by omega) hy
  have tz := kt_addI (x := v 56 i) (by omega) (by omega) hz
  refine ⟨?_, ?_, fun x hx => ?_⟩
  · rw [h45, h56, smR_upd 12 hi]
    omega
  · rw [h45]
    omega
  · rw [h56]
    try dsimp only
    by_cases c : x = i
    · subst c
      have := h.2.2 x hx
      rw [if_pos rfl]
      simp only [upd, if_true]
      omega
    · rw [if_neg c]
      simp only [upd, if_neg c]
      exact h.2.2 x hx
theorem rQ.more {v : Nat → Nat → Int32} {F : Nat → Int} {i : Nat} {a b : Int} (h : rQ v (fun x => if x = i then a else F x)) (hab : a ≤ b) : rQ v (fun x => if x = i then b else F x) := h.mono (fun x _ => by
  try dsimp only
  by_cases c : x = i
  · rw [if_pos c, if_pos c]; exact hab
  · rw [if_neg c, if_neg c]; exact Int.le_refl _)
theorem rQ.inc {v : Nat → Nat → Int32} {F : Nat → Int} {i : Nat} {a : Int} (h : rQ v (fun x => if x = i then (if x = i then a else F x) + 1 else (if x = i then a else F x))) : rQ v (fun x => if x = i then a + 1 else F x) := h.mono (fun x _ => by
  try dsimp only
  by_cases c : x = i
  · rw [if_pos c, if_pos c, if_pos c]; exact Int.le_refl _
  · rw [if_neg c, if_neg c, if_neg c]; exact Int.le_refl _)
theorem rQ.step {v v1 : Nat → Nat → Int32} {i : Nat} {o : Int} {y : Int32} (h : rQ v (fun x => if x = i then o else bd (v 52 x))) (e : v1 = mU v 52 (upd (v 52) i y)) : rQ v1 (fun x => if x = i then o else bd (v1 52 x)) := by
  have h1 := h.put e ⟨by decide, by decide⟩
  refine h1.mono (fun x _ => ?_)
  try dsimp only
  by_cases c : x = i
  · rw [if_pos c, if_pos c]; exact Int.le_refl _
  · rw [if_neg c, if_neg c, e, mU_self]
    simp only [upd, if_neg c]
    exact Int.le_refl _
theorem rL.of {v : Nat → Nat → Int32} {g : Nat → Int32} {i : Nat} {a : Int} (h : rQ v (fun x => if x = i then a else bd (g x))) (e : v 52 = g) (hy : a ≤ bd (g i)) : rL v := by
  unfold rL
  rw [e]
  refine h.mono (fun x _ => ?_)
  try dsimp only
  by_cases c : x = i
  · subst c; rw [if_pos rfl]; exact hy
  · rw [if_neg c]; exact Int.le_refl _
theorem bd_many {p : Int32} {B : Nat → Int32} {i : Nat} {o : Int} {k : Nat} (ho : o ≤ 10) (hk : k ≤ 10) : ∀ x, x < 12 → (if x = i then o + (k : Int) else bd (B x)) ≤ 40 := fun x _ => by
  split
  · omega
  · have := (bd_le (B x)).2; omega
theorem bd_ok {p : Int32} {o : Int} (ho : (o = 0 ∧ p ≠ 0) ∨ (o = 10 ∧ p = 4)) {k : Nat} (h : ((p = 1 ∨ p = 4 ∨ p = 5) ∧ k ≤ 6) ∨ (p = 2 ∧ k ≤ 10) ∨ k = 0) : o + (k : Int) ≤ bd p := by
  have b4 : bd 4 = 16 := by decide
  have bn : p ≠ 0 → p ≠ 4 → bd p = 10 := fun h1 h2 => by unfold bd; rw [if_neg h1, if_neg h2]
  rcases ho with ⟨rfl, h0⟩ | ⟨rfl, rfl⟩
  · by_cases h4 : p = 4
    · rw [h4, b4]; rcases h with ⟨-, h⟩ | ⟨-, h⟩ | h <;> omega
    · rw [bn h0 h4]; rcases h with ⟨-, h⟩ | ⟨-, h⟩ | h <;> omega
  · rw [b4]
    rcases h with ⟨-, h⟩ | ⟨h, -⟩ | h
    · omega
    · exact absurd h (by decide)
    · omega
theorem rL.zero {v : Nat → Nat → Int32} {i : Nat} (h : rL v) (ho : (v 56 i).toInt ≤ 0) : rQ v (fun x => if x = i then 0 else bd (v 52 x)) := ⟨h.1, h.2.1, fun x hx => by
  try dsimp only
  by_cases c : x = i
  · subst c; rw [if_pos rfl]; exact ho
  · rw [if_neg c]; exact h.2.2 x hx⟩
theorem rL.ten {v : Nat → Nat → Int32} {i : Nat} (h : rL v) (ho : bd (v 52 i) ≤ 10) : rQ v (fun x => if x = i then 10 else bd (v 52 x)) := ⟨h.1, h.2.1, fun x hx => by
  try dsimp only
  by_cases c : x = i
  · subst c; rw [if_pos rfl]; exact Int.le_trans (h.2.2 x hx) ho
  · rw [if_neg c]; exact h.2.2 x hx⟩
theorem rL.at0 {v : Nat → Nat → Int32} {i : Nat} (h : rL v) (hi : i < 12) (h0 : v 52 i = 0) : (v 56 i).toInt ≤ 0 := by
  have := h.2.2 i hi
  dsimp only at this
  rw [h0] at this
  exact this
theorem rL.step0 {v v1 : Nat → Nat → Int32} {i : Nat} (h : rL v) (ho : (v 56 i).toInt ≤ 0) (e : v1 = mU v 52 (upd (v 52) i 0)) : rL v1 := by
  have h1 := (h.zero ho).step e
  exact rL.of (g := v1 52) h1 rfl (bd_le _).1
theorem act_dec {v v1 : Nat → Nat → Int32} {i : Nat} {z : Int32} (e : v1 = mU v 56 (upd (v 56) i z)) (hz : z = v 56 i - 1) (hO : ∀ x, x < 12 → (v 56 x).toInt ≤ 16) (h0 : 0 ≤ smR (v 56) 12) (hi : i < 12) : smR (v1 56) 12 = smR (v 56) 12 - 1 ∧ ∀ x, x < 12 → (v1 56 x).toInt ≤ (v 56 x).toInt := by
  have hlow := smR_low (f := v 56) hi (b := 16) (by decide) hO
  have hup := hO i hi
  have tz := kt_subI (x := v 56 i) (by omega) (by omega) hz
  subst e
  rw [mU_self]
  refine ⟨by rw [smR_upd 12 hi]; omega, fun x hx => ?_⟩
  by_cases c : x = i
  · subst c; simp only [upd, if_true]; omega
  · simp only [upd, if_neg c]; exact Int.le_refl _
theorem kt_sub10 {t z : Int32} {m : Nat} (e : t = nI (m + 10)) (ez : z = t - 10) : z = nI m := by
  rw [ez, e, ← nI_add]
  show nI m + nI 10 - nI 10 = nI m
  rw [Int32.add_sub_cancel]
theorem kt_only {v u : Nat → Nat → Int32} {k : Nat} (h : ∀ c, c ≠ k → u c = v c) : u = mU v k (u k) := by
  funext c
  by_cases z : c = k
  · subst z; rw [mU_self]
  · rw [mU_ne _ _ z]; exact h c z
def rK (v : Nat → Nat → Int32) (kp : Int32) (i : Nat) : Prop := ∃ k : Nat, kp = nI k ∧ k ≤ i ∧ smR (v 56) 12 = k + ((v 45 3).toInt - i) ∧ (i : Int) ≤ (v 45 3).toInt ∧ (v 45 3).toInt ≤ 480 ∧ ∀ s, s < 12 → (v 56 s).toInt ≤ bd (v 52 s)
theorem rK.init {v : Nat → Nat → Int32} (h : rL v) : rK v 0 0 := ⟨0, rfl, Nat.le_refl _, by rw [← h.1]; simp, by simpa using h.2.1, Int.le_trans (rQ.le h (b := 16) (fun s _ => (bd_le _).2)) (by decide), h.2.2⟩
theorem rK.done {v v1 : Nat → Nat → Int32} {kp : Int32} {k i : Nat} (hkp : kp = nI k) (hk : k < 2 ^ 31) (hs : smR (v 56) 12 = k + ((v 45 3).toInt - i)) (hi : (v 45 3).toInt ≤ i) (hi2 : (i : Int) ≤ (v 45 3).toInt) (hb : ∀ s, s < 12 → (v 56 s).toInt ≤ bd (v 52 s)) (e : v1 = mU v 45 (upd (v 45) 3 kp)) : rL v1 := by
  have h45 : v1 45 3 = kp := by rw [e, mU_self]; simp [upd]
  have h56 : v1 56 = v 56 := by rw [e]; exact mU_ne _ _ (by decide)
  have h52 : v1 52 = v 52 := by rw [e]; exact mU_ne _ _ (by decide)
  unfold rL rQ
  rw [h45, h56, h52, hkp, nI_toInt hk]
  exact ⟨by omega, by omega, hb⟩
def hN78 (nd : Nat → Int32) (s : Nat) (f : Nat → Int32) : Prop := ∀ x, x < 12 → f x = 0 ∨ (f x = 1 ∧ Rch (fun a b => nd (12 * a + b) ≠ 0) s x)
theorem hN78.set {nd f : Nat → Int32} {s : Nat} (h : hN78 nd s f) (j : Nat) (hj : Rch (fun a b => nd (12 * a + b) ≠ 0) s j) : hN78 nd s (upd f j 1) := fun x hx => by
  by_cases c : x = j
  · subst c; right; exact ⟨by simp [upd], hj⟩
  · simp only [upd, if_neg c]; exact h x hx
theorem hS_rch {nd : Nat → Int32} {s a b : Nat} (ha : a < 12) (hb : b < 12) (he : nd (12 * a + b) ≠ 0) (h : a = s ∨ Rch (fun x z => nd (12 * x + z) ≠ 0) s a) : Rch (fun x z => nd (12 * x + z) ≠ 0) s b := by
  rcases h with rfl | h
  · exact Rch.base hb he
  · exact Rch.step ha hb h he
theorem hC_fin {sc : Int32} {nd sn : Nat → Int32} {s y : Nat} (hn : rN sc nd) (hs : s < 12) (hc : ∀ x z : Nat, (x : Int) < sc.toInt → (z : Int) < sc.toInt → hC nd s sn x z) (h : Rch (fun a b => nd (12 * a + b) ≠ 0) s y) : sn y ≠ 0 := h (fun y => sn y ≠ 0) (fun z hz e => hc s z (hn.1 s z hs hz e).1 (hn.1 s z hs hz e).2 e (Or.inl rfl)) (fun x z hx hz p e => hc x z (hn.1 x z hx hz e).1 (hn.1 x z hx hz e).2 e (Or.inr p))
theorem kt_nm1 {i : Nat} (h : i < 2 ^ 31) : ¬ nI i = -1 := fun e => by
  have := congrArg Int32.toInt e
  rw [nI_toInt h, Lm1] at this
  omega
