def smR (f : Nat → Int32) : Nat → Int
  | 0 => 0
  | n + 1 => smR f n + (f n).toInt
theorem smR_ge {f : Nat → Int32} {j : Nat} {y : Int32} : ∀ m, m ≤ j → smR (upd f j y) m = smR f m
  | 0, _ => rfl
  | m + 1, h => by
    have ih := smR_ge (f := f) (j := j) (y := y) m (by omega)
    have e : upd f j y m = f m := by simp [upd]; omega
    simp only [smR, ih, e]
theorem smR_upd {f : Nat → Int32} {j : Nat} {y : Int32} : ∀ m, j < m → smR (upd f j y) m = smR f m - (f j).toInt + y.toInt
  | 0, h => absurd h (by omega)
  | m + 1, h => by
    by_cases hj : j = m
    · subst hj
      have e : upd f j y j = y := by simp [upd]
      simp only [smR, smR_ge j (Nat.le_refl j), e]
      omega
    · have ih := smR_upd (f := f) (j := j) (y := y) m (by omega)
      have e : upd f j y m = f m := by simp [upd]; omega
      simp only [smR, ih, e]
      omega
theorem smR_le {f : Nat → Int32} {b : Int} : ∀ m : Nat, (∀ x, x < m → (f x).toInt ≤ b) → smR f m ≤ b * m
  | 0, _ => by simp [smR]
  | m + 1, h => by
    have ih := smR_le (f := f) (b := b) m (fun x hx => h x (by omega))
    have e := h m (by omega)
    simp only [smR]
    have : b * ((m + 1 : Nat) : Int) = b * m + b := by rw [Int.natCast_succ, Int.mul_add, Int.mul_one]
    omega
theorem smR_low {f : Nat → Int32} {j : Nat} (hj : j < 12) {b : Int} (h0 : 0 ≤ b) (h : ∀ x, x < 12 → (f x).toInt ≤ b) : smR f 12 - b * 12 ≤ (f j).toInt := by
  have h1 : smR (upd f j 0) 12 ≤ b * (12 : Nat) := smR_le 12 (fun x hx => by
    by_cases e : x = j
    · subst e; simp only [upd, if_true, L0]; exact h0
    · have : upd f j 0 x = f x := by simp [upd, e]
      rw [this]; exact h x hx)
  rw [smR_upd 12 hj, L0] at h1
  omega
def czR (f : Nat → Int32) : Nat → Nat
  | 0 => 0
  | n + 1 => czR f n + (if f n = 0 then 1 else 0)
theorem czR_ge {f : Nat → Int32} {j : Nat} {y : Int32} : ∀ m, m ≤ j → czR (upd f j y) m = czR f m
  | 0, _ => rfl
  | m + 1, h => by
    have ih := czR_ge (f := f) (j := j) (y := y) m (by omega)
    have e : upd f j y m = f m := by simp [upd]; omega
    simp only [czR, ih, e]
theorem czR_set {f : Nat → Int32} {j : Nat} {y : Int32} (hy : y ≠ 0) (hf : f j = 0) : ∀ m, j < m → czR (upd f j y) m + 1 = czR f m
  | 0, h => absurd h (by omega)
  | m + 1, h => by
    by_cases hj : j = m
    · subst hj
      have e : upd f j y j = y := by simp [upd]
      simp only [czR, czR_ge j (Nat.le_refl j), e, if_neg hy, if_pos hf]
    · have ih := czR_set (f := f) (y := y) hy hf m (by omega)
      have e : upd f j y m = f m := by simp [upd]; omega
      simp only [czR, e]
      omega
def cnR (f : Nat → Int32) : Nat → Nat
  | 0 => 0
  | n + 1 => cnR f n + (if f n = 0 then 0 else 1)
theorem cnR_ge {f : Nat → Int32} {j : Nat} {y : Int32} : ∀ m, m ≤ j → cnR (upd f j y) m = cnR f m
  | 0, _ => rfl
  | m + 1, h => by
    have ih := cnR_ge (f := f) (j := j) (y := y) m (by omega)
    have e : upd f j y m = f m := by simp [upd]; omega
    simp only [cnR, ih, e]
theorem cnR_set {f : Nat → Int32} {j : Nat} {y : Int32} : ∀ m, cnR (upd f j y) m ≤ cnR f m + 1
  | 0 => by simp [cnR]
  | m + 1 => by
    by_cases hj : j = m
    · subst hj
      simp only [cnR, cnR_ge j (Nat.le_refl j)]
      split <;> split <;> omega
    · have ih := cnR_set (f := f) (j := j) (y := y) m
      have e : upd f j y m = f m := by simp [upd]; omega
      simp only [cnR, e]
      omega
theorem cnR_all {f : Nat → Int32} {k : Nat} : ∀ m, k ≤ m → (∀ x, x < k → f x ≠ 0) → k ≤ cnR f m
  | 0, h, _ => h
  | m + 1, h, hf => by
    by_cases hk : k ≤ m
    · have ih := cnR_all (f := f) m hk hf
      simp only [cnR]
      omega
    · obtain rfl : k = m + 1 := by omega
      have : ∀ j, j ≤ m + 1 → j ≤ cnR f j := by
        intro j
        induction j with
        | zero => intro _; exact Nat.zero_le _
        | succ j ih =>
          intro hj
          have := ih (by omega)
          simp only [cnR, if_neg (hf j (by omega))]
          omega
      exact this _ (Nat.le_refl _)
theorem cnR_zero {f : Nat → Int32} : ∀ m, (∀ x, x < m → f x = 0) → cnR f m = 0
  | 0, _ => rfl
  | m + 1, h => by
    have ih := cnR_zero (f := f) m (fun x hx => h x (by omega))
    simp only [cnR, ih, if_pos (h m (by omega))]
def bd (x : Int32) : Int := if x = 0 then 0 else if x = 4 then 16 else 10
theorem bd_le (x : Int32) : 0 ≤ bd x ∧ bd x ≤ 16 := by
  unfold bd
  split
  · omega
  · split <;> omega
def rN (sc : Int32) (nd : Nat → Int32) : Prop := (∀ x y, x < 12 → y < 12 → nd (12 * x + y) ≠ 0 → (x : Int) < sc.toInt ∧ (y : Int) < sc.toInt) ∧ ∃ r : Nat → Nat, ∀ x y, x < 12 → y < 12 → nd (12 * x + y) ≠ 0 → r y < r x
def hC (nd : Nat → Int32) (p : Nat) (sn : Nat → Int32) (x y : Nat) : Prop := nd (12 * x + y) ≠ 0 → (x = p ∨ sn x ≠ 0) → sn y ≠ 0
theorem rN.mono {sc sc' : Int32} {nd : Nat → Int32} (h : rN sc nd) (hs : sc.toInt ≤ sc'.toInt) : rN sc' nd := ⟨fun x y hx hy hn => by have := h.1 x y hx hy hn; omega, h.2⟩
theorem rN.del {sc : Int32} {nd : Nat → Int32} (h : rN sc nd) (j : Nat) : rN sc (upd nd j 0) := by
  have e : ∀ z, upd nd j 0 z ≠ 0 → nd z ≠ 0 := fun z hz => by
    by_cases c : z = j
    · subst c; simp [upd] at hz
    · simpa [upd, c] using hz
  obtain ⟨h1, r, h2⟩ := h
  exact ⟨fun x y hx hy hn => h1 x y hx hy (e _ hn), r, fun x y hx hy hn => h2 x y hx hy (e _ hn)⟩
/-- the greatest rank below twelve -/
theorem rk_bound (r : Nat → Nat) : ∀ m, ∃ M, ∀ x, x < m → r x < M
  | 0 => ⟨0, fun x hx => absurd hx (by omega)⟩
  | m + 1 => by
    obtain ⟨M, hM⟩ := rk_bound r m
    refine ⟨M + r m + 1, fun x hx => ?_⟩
    by_cases h : x = m
    · subst h; omega
    · have := hM x (by omega); omega
theorem rN.add {sc : Int32} {nd sn : Nat → Int32} {i o : Nat} {y : Int32} (h : rN sc nd) (hi : (i : Int) < sc.toInt) (ho : (o : Int) < sc.toInt) (h12 : sc.toInt ≤ 12) (hne : i ≠ o) (hcl : ∀ x z : Nat, (x : Int) < sc.toInt → (z : Int) < sc.toInt → hC nd o sn x z) (hz : sn i = 0) : rN sc (upd nd (12 * i + o) y) := by
  obtain ⟨h1, r, h2⟩ := h
  have e : ∀ x z, x < 12 → z < 12 → upd nd (12 * i + o) y (12 * x + z) ≠ 0 → (x = i ∧ z = o) ∨ nd (12 * x + z) ≠ 0 := fun x z hx hz hn => by
    by_cases c : 12 * x + z = 12 * i + o
    · left; omega
    · right; simpa [upd, c] using hn
  refine ⟨fun x z hx hz hn => ?_, ?_⟩
  · rcases e x z hx hz hn with ⟨rfl, rfl⟩ | hn
    · exact ⟨hi, ho⟩
    · exact h1 x z hx hz hn
  · obtain ⟨M, hM⟩ := rk_bound r 12
    refine ⟨fun x => if x = o ∨ sn x ≠ 0 then r x else r x + M, fun x z hx hz9 hn => ?_⟩
    rcases e x z hx hz9 hn with ⟨rfl, rfl⟩ | hn
    · have c1 : ¬ (x = z ∨ sn x ≠ 0) := by rintro (c | c); exact hne c; exact c hz
      have := hM z hz9
      simp only [if_neg c1, true_or, if_true]
      omega
    · have hb := h1 x z hx hz9 hn
      have hr := h2 x z hx hz9 hn
      by_cases c : x = o ∨ sn x ≠ 0
      · have : sn z ≠ 0 := hcl x z hb.1 hb.2 hn c
        have c2 : z = o ∨ sn z ≠ 0 := Or.inr this
        simp only [if_pos c, if_pos c2]
        exact hr
      · simp only [if_neg c]
        split <;> omega
/-- one that may be placed next -/
theorem plan_ex {sc : Int32} {nd f : Nat → Int32} (h : rN sc nd) (h12 : sc.toInt ≤ 12) {k : Nat} (hc : cnR f 12 ≤ k) (hk : (k : Int) < sc.toInt) : ∃ x : Nat, (x : Int) < sc.toInt ∧ f x = 0 ∧ ∀ y : Nat, (y : Int) < sc.toInt → nd (12 * x + y) ≠ 0 → f y ≠ 0 := by
  obtain ⟨-, r, h2⟩ := h
  have h0 : ∃ x : Nat, (x : Int) < sc.toInt ∧ f x = 0 := by
    refine Classical.byContradiction fun hno => ?_
    have hall : ∀ x, x < k + 1 → f x ≠ 0 := fun x hx hf => hno ⟨x, by omega, hf⟩
    have := cnR_all (f := f) 12 (by omega) hall
    omega
  have key : ∀ n (x : Nat), r x < n → (x : Int) < sc.toInt → f x = 0 → ∃ x : Nat, (x : Int) < sc.toInt ∧ f x = 0 ∧ ∀ y : Nat, (y : Int) < sc.toInt → nd (12 * x + y) ≠ 0 → f y ≠ 0 := by
    intro n
    induction n with
    | zero => intro x hx; exact absurd hx (by omega)
    | succ n ih =>
      intro x hx hs hf
      refine Classical.byContradiction fun hno => ?_
      have : ∀ y : Nat, (y : Int) < sc.toInt → nd (12 * x + y) ≠ 0 → f y ≠ 0 := fun y hy hn hf2 => hno (ih y (by have := h2 x y (by omega) (by omega) hn; omega) hy hf2)
      exact hno ⟨x, hs, hf, this⟩
  obtain ⟨x, hs, hf⟩ := h0
  exact key (r x + 1) x (by omega) hs hf
def rA (n : Nat) (v0 v : Nat → Nat → Int32) : Prop := (0 ≤ (v 45 2).toInt ∧ (v 45 2).toInt ≤ 12) ∧ (0 ≤ (v 45 4).toInt ∧ (v 45 4).toInt ≤ n) ∧ (∀ l, l < 600 → 0 ≤ (v 67 l).toInt ∧ (v 67 l).toInt < 16) ∧ (∀ l, l < 600 → 0 ≤ (v 68 l).toInt ∧ (v 68 l).toInt < 12) ∧ (∀ s, s < 12 → 0 ≤ (v 57 s).toInt) ∧ rN (v 45 2) (v 59) ∧ ∀ c, c < 45 → v c = v0 c
theorem rA.self0 {n : Nat} {v0 v : Nat → Nat → Int32} (h : rA n v0 v) : rA n v v := ⟨h.1, h.2.1, h.2.2.1, h.2.2.2.1, h.2.2.2.2.1, h.2.2.2.2.2.1, fun _ _ => rfl⟩
theorem rA.trans0 {n m : Nat} {v0 v u : Nat → Nat → Int32} (h : rA n v0 v) (h2 : rA m v u) : rA m v0 u := ⟨h2.1, h2.2.1, h2.2.2.1, h2.2.2.2.1, h2.2.2.2.2.1, h2.2.2.2.2.2.1, fun c hc => (h2.2.2.2.2.2.2 c hc).trans (h.2.2.2.2.2.2 c hc)⟩
theorem rA.up {n m : Nat} {v0 v : Nat → Nat → Int32} (h : rA n v0 v) (hm : n ≤ m) : rA m v0 v := ⟨h.1, ⟨h.2.1.1, by have := h.2.1.2; omega⟩, h.2.2⟩
theorem rA.put {n : Nat} {v0 v v1 : Nat → Nat → Int32} {c : Nat} {x : Nat → Int32} (h : rA n v0 v) (e : v1 = mU v c x) (hc : 45 < c ∧ c ≠ 57 ∧ c ≠ 59 ∧ c ≠ 67 ∧ c ≠ 68) : rA n v0 v1 := by
  subst e
  have e45 : mU v c x 45 = v 45 := mU_ne _ _ (by omega)
  have e57 : mU v c x 57 = v 57 := mU_ne _ _ (by omega)
  have e59 : mU v c x 59 = v 59 := mU_ne _ _ (by omega)
  have e67 : mU v c x 67 = v 67 := mU_ne _ _ (by omega)
  have e68 : mU v c x 68 = v 68 := mU_ne _ _ (by omega)
  unfold rA
  rw [e45, e57, e59, e67, e68]
  exact ⟨h.1, h.2.1, h.2.2.1, h.2.2.2.1, h.2.2.2.2.1, h.2.2.2.2.2.1, fun d hd => by rw [mU_ne _ _ (by omega)]; exact h.2.2.2.2.2.2 d hd⟩
theorem rA.putM {n m : Nat} {v0 v v1 : Nat → Nat → Int32} {k : Nat} {y : Int32} (h : rA n v0 v) (e : v1 = mU v 45 (upd (v 45) k y)) (h2 : 2 = k → (v 45 2).toInt ≤ y.toInt ∧ y.toInt ≤ 12) (h4 : if 4 = k then 0 ≤ y.toInt ∧ y.toInt ≤ m else n ≤ m) : rA m v0 v1 := by
  subst e
  have e57 : mU v 45 (upd (v 45) k y) 57 = v 57 := mU_ne _ _ (by omega)
  have e59 : mU v 45 (upd (v 45) k y) 59 = v 59 := mU_ne _ _ (by omega)
  have e67 : mU v 45 (upd (v 45) k y) 67 = v 67 := mU_ne _ _ (by omega)
  have e68 : mU v 45 (upd (v 45) k y) 68 = v 68 := mU_ne _ _ (by omega)
  obtain ⟨b1, b2, b3, b4, b5, b6, b7⟩ := h
  unfold rA
  rw [e57, e59, e67, e68, mU_self]
  have q2 : (v 45 2).toInt ≤ (upd (v 45) k y 2).toInt ∧ (upd (v 45) k y 2).toInt ≤ 12 := by
    by_cases z : 2 = k
    · subst z; simpa [upd] using h2 rfl
    · simp only [upd, if_neg z]; exact ⟨Int.le_refl _, b1.2⟩
  refine ⟨⟨by omega, q2.2⟩, ?_, b3, b4, b5, b6.mono q2.1, fun d hd => by rw [mU_ne _ _ (by omega)]; exact b7 d hd⟩
  by_cases z : 4 = k
  · rw [if_pos z] at h4; subst z; simpa [upd] using h4
  · rw [if_neg z] at h4; simp only [upd, if_neg z]; exact ⟨b2.1, by have := b2.2; omega⟩
theorem rA.put57 {n : Nat} {v0 v v1 : Nat → Nat → Int32} {k : Nat} {y : Int32} (h : rA n v0 v) (e : v1 = mU v 57 (upd (v 57) k y)) (hy : 0 ≤ y.toInt) : rA n v0 v1 := by
  subst e
  obtain ⟨b1, b2, b3, b4, b5, b6, b7⟩ := h
  refine ⟨b1, b2, b3, b4, fun s hs => ?_, b6, fun d hd => by rw [mU_ne _ _ (by omega)]; exact b7 d hd⟩
  rw [mU_self]
  by_cases z : s = k
  · simp only [upd, if_pos z]; exact hy
  · simp only [upd, if_neg z]; exact b5 s hs
theorem rA.put67 {n : Nat} {v0 v v1 : Nat → Nat → Int32} {k : Nat} {y : Int32} (h : rA n v0 v) (e : v1 = mU v 67 (upd (v 67) k y)) (hy : 0 ≤ y.toInt ∧ y.toInt < 16) : rA n v0 v1 := by
  subst e
  obtain ⟨b1, b2, b3, b4, b5, b6, b7⟩ := h
  refine ⟨b1, b2, fun s hs => ?_, b4, b5, b6, fun d hd => by rw [mU_ne _ _ (by omega)]; exact b7 d hd⟩
  rw [mU_self]
  by_cases z : s = k
  · simp only [upd, if_pos z]; exact hy
  · simp only [upd, if_neg z]; exact b3 s hs
theorem rA.put68 {n : Nat} {v0 v v1 : Nat → Nat → Int32} {k : Nat} {y : Int32} (h : rA n v0 v) (e : v1 = mU v 68 (upd (v 68) k y)) (hy : 0 ≤ y.toInt ∧ y.toInt < 12) : rA n v0 v1 := by
  subst e
  obtain ⟨b1, b2, b3, b4, b5, b6, b7⟩ := h
  refine ⟨b1, b2, b3, fun s hs => ?_, b5, b6, fun d hd => by rw [mU_ne _ _ (by omega)]; exact b7 d hd⟩
  rw [mU_self]
  by_cases z : s = k
  · simp only [upd, if_pos z]; exact hy
  · simp only [upd, if_neg z]; exact b4 s hs
theorem rA.put59 {n : Nat} {v0 v v1 : Nat → Nat → Int32} {x : Nat → Int32} (h : rA n v0 v) (e : v1 = mU v 59 x) (hx : rN (v 45 2) x) : rA n v0 v1 := by
  subst e
  obtain ⟨b1, b2, b3, b4, b5, b6, b7⟩ := h
  exact ⟨b1, b2, b3, b4, b5, by rw [mU_self]; exact hx, fun d hd => by rw [mU_ne _ _ (by omega)]; exact b7 d hd⟩
theorem rA.sc {n : Nat} {v0 v : Nat → Nat → Int32} (h : rA n v0 v) : 0 ≤ (v 45 2).toInt ∧ (v 45 2).toInt ≤ 12 := h.1
theorem rA.tn {n : Nat} {v0 v : Nat → Nat → Int32} (h : rA n v0 v) : 0 ≤ (v 45 4).toInt ∧ (v 45 4).toInt ≤ n := h.2.1
theorem rA.tw {n : Nat} {v0 v : Nat → Nat → Int32} (h : rA n v0 v) : ∀ l, l < 600 → 0 ≤ (v 67 l).toInt ∧ (v 67 l).toInt < 16 := h.2.2.1
theorem rA.os {n : Nat} {v0 v : Nat → Nat → Int32} (h : rA n v0 v) : ∀ l, l < 600 → 0 ≤ (v 68 l).toInt ∧ (v 68 l).toInt < 12 := h.2.2.2.1
theorem rA.to {n : Nat} {v0 v : Nat → Nat → Int32} (h : rA n v0 v) : ∀ s, s < 12 → 0 ≤ (v 57 s).toInt := h.2.2.2.2.1
theorem rA.nd {n : Nat} {v0 v : Nat → Nat → Int32} (h : rA n v0 v) : rN (v 45 2) (v 59) := h.2.2.2.2.2.1
theorem rA.fr {n : Nat} {v0 v : Nat → Nat → Int32} (h : rA n v0 v) : ∀ c, c < 45 → v c = v0 c := h.2.2.2.2.2.2
def rC (n : Nat) (v0 v : Nat → Nat → Int32) : Prop := rA n v0 v ∧ v 59 = v0 59
theorem rC.self0 {n : Nat} {v0 v : Nat → Nat → Int32} (h : rC n v0 v) : rC n v v := ⟨h.1.self0, rfl⟩
theorem rC.trans0 {n m : Nat} {v0 v u : Nat → Nat → Int32} (h : rC n v0 v) (h2 : rC m v u) : rC m v0 u := ⟨h.1.trans0 h2.1, h2.2.trans h.2⟩
theorem rC.up {n m : Nat} {v0 v : Nat → Nat → Int32} (h : rC n v0 v) (hm : n ≤ m) : rC m v0 v := ⟨h.1.up hm, h.2⟩
theorem rC.put {n : Nat} {v0 v v1 : Nat → Nat → Int32} {c : Nat} {x : Nat → Int32} (h : rC n v0 v) (e : v1 = mU v c x) (hc : 45 < c ∧ c ≠ 57 ∧ c ≠ 59 ∧ c ≠ 67 ∧ c ≠ 68) : rC n v0 v1 := ⟨h.1.put e hc, by rw [e, mU_ne _ _ (by omega)]; exact h.2⟩
theorem rC.putM {n m : Nat} {v0 v v1 : Nat → Nat → Int32} {k : Nat} {y : Int32} (h : rC n v0 v) (e : v1 = mU v 45 (upd (v 45) k y)) (h2 : 2 = k → (v 45 2).toInt ≤ y.toInt ∧ y.toInt ≤ 12) (h4 : if 4 = k then 0 ≤ y.toInt ∧ y.toInt ≤ m else n ≤ m) : rC m v0 v1 := ⟨h.1.putM e h2 h4, by rw [e, mU_ne _ _ (by decide)]; exact h.2⟩
theorem rC.put57 {n : Nat} {v0 v v1 : Nat → Nat → Int32} {k : Nat} {y : Int32} (h : rC n v0 v) (e : v1 = mU v 57 (upd (v 57) k y)) (hy : 0 ≤ y.toInt) : rC n v0 v1 := ⟨h.1.put57 e hy, by rw [e, mU_ne _ _ (by decide)]; exact h.2⟩
theorem rC.put67 {n : Nat} {v0 v v1 : Nat → Nat → Int32} {k : Nat} {y : Int32} (h : rC n v0 v) (e : v1 = mU v 67 (upd (v 67) k y)) (hy : 0 ≤ y.toInt ∧ y.toInt < 16) : rC n v0 v1 := ⟨h.1.put67 e hy, by rw [e, mU_ne _ _ (by decide)]; exact h.2⟩
theorem rC.put68 {n : Nat} {v0 v v1 : Nat → Nat → Int32} {k : Nat} {y : Int32} (h : rC n v0 v) (e : v1 = mU v 68 (upd (v 68) k y)) (hy : 0 ≤ y.toInt ∧ y.toInt < 12) : rC n v0 v1 := ⟨h.1.put68 e hy, by rw [e, mU_ne _ _ (by decide)]; exact h.2⟩
theorem rC.sc {n : Nat} {v0 v : Nat → Nat → Int32} (h : rC n v0 v) : 0 ≤ (v 45 2).toInt ∧ (v 45 2).toInt ≤ 12 := h.1.sc
theorem rC.tn {n : Nat} {v0 v : Nat → Nat → Int32} (h : rC n v0 v) : 0 ≤ (v 45 4).toInt ∧ (v 45 4).toInt ≤ n := h.1.tn
theorem rC.tw {n : Nat} {v0 v : Nat → Nat → Int32} (h : rC n v0 v) : ∀ l, l < 600 → 0 ≤ (v 67 l).toInt ∧ (v 67 l).toInt < 16 := h.1.tw
theorem rC.os {n : Nat} {v0 v : Nat → Nat → Int32} (h : rC n v0 v) : ∀ l, l < 600 → 0 ≤ (v 68 l).toInt ∧ (v 68 l).toInt < 12 := h.1.os
theorem rC.to {n : Nat} {v0 v : Nat → Nat → Int32} (h : rC n v0 v) : ∀ s, s < 12 → 0 ≤ (v 57 s).toInt := h.1.to
theorem rC.nd {n : Nat} {v0 v : Nat → Nat → Int32} (h : rC n v0 v) : rN (v 45 2) (v 59) := h.1.nd
theorem rC.fr {n : Nat} {v0 v : Nat → Nat → Int32} (h : rC n v0 v) : ∀ c, c < 45 → v c = v0 c := h.1.fr
def rX (v0 v : Nat → Nat → Int32) : Prop := v 45 1 = v0 45 1 ∧ v 45 2 = v0 45 2 ∧ v 60 = v0 60
def rB (n : Nat) (v0 v : Nat → Nat → Int32) : Prop := rC n v0 v ∧ rX v0 v
theorem rB.toC {n : Nat} {v0 v : Nat → Nat → Int32} (h : rB n v0 v) : rC n v0 v := h.1
theorem rB.sc {n : Nat} {v0 v : Nat → Nat → Int32} (h : rB n v0 v) : 0 ≤ (v 45 2).toInt ∧ (v 45 2).toInt ≤ 12 := h.1.sc
theorem rB.tn {n : Nat} {v0 v : Nat → Nat → Int32} (h : rB n v0 v) : 0 ≤ (v 45 4).toInt ∧ (v 45 4).toInt ≤ n := h.1.tn
theorem rB.tw {n : Nat} {v0 v : Nat → Nat → Int32} (h : rB n v0 v) : ∀ l, l < 600 → 0 ≤ (v 67 l).toInt ∧ (v 67 l).toInt < 16 := h.1.tw
theorem rB.os {n : Nat} {v0 v : Nat → Nat → Int32} (h : rB n v0 v) : ∀ l, l < 600 → 0 ≤ (v 68 l).toInt ∧ (v 68 l).toInt < 12 := h.1.os
theorem rB.to {n : Nat} {v0 v : Nat → Nat → Int32} (h : rB n v0 v) : ∀ s, s < 12 → 0 ≤ (v 57 s).toInt := h.1.to
theorem rB.nd {n : Nat} {v0 v : Nat → Nat → Int32} (h : rB n v0 v) : rN (v 45 2) (v 59) := h.1.nd
theorem rB.fr {n : Nat} {v0 v : Nat → Nat → Int32} (h : rB n v0 v) : ∀ c, c < 45 → v c = v0 c := h.1.fr
theorem rA.self {n : Nat} {v0 v : Nat → Nat → Int32} (h : rA n v0 v) : rB n v v := ⟨⟨h.self0, rfl⟩, rfl, rfl, rfl⟩
theorem rB.toA {n : Nat} {v0 v : Nat → Nat → Int32} (h : rB n v0 v) : rA n v0 v := h.1.1
theorem rC.self {n : Nat} {v0 v : Nat → Nat → Int32} (h : rC n v0 v) : rB n v v := ⟨h.self0, rfl, rfl, rfl⟩
theorem rB.self {n : Nat} {v0 v : Nat → Nat → Int32} (h : rB n v0 v) : rB n v v := h.1.self
theorem rC.trans {n m : Nat} {v0 v u : Nat → Nat → Int32} (h : rC n v0 v) (h2 : rB m v u) : rC m v0 u := h.trans0 h2.1
theorem rB.trans {n m : Nat} {v0 v u : Nat → Nat → Int32} (h : rB n v0 v) (h2 : rB m v u) : rB m v0 u := ⟨h.1.trans0 h2.1, h2.2.1.trans h.2.1, h2.2.2.1.trans h.2.2.1, h2.2.2.2.trans h.2.2.2⟩
theorem rB.up {n m : Nat} {v0 v : Nat → Nat → Int32} (h : rB n v0 v) (hm : n ≤ m) : rB m v0 v := ⟨h.1.up hm, h.2⟩
theorem rB.put {n : Nat} {v0 v v1 : Nat → Nat → Int32} {c : Nat} {x : Nat → Int32} (h : rB n v0 v) (e : v1 = mU v c x) (hc : 45 < c ∧ c ≠ 57 ∧ c ≠ 59 ∧ c ≠ 67 ∧ c ≠ 68 ∧ c ≠ 60) : rB n v0 v1 := by
  refine ⟨h.1.put e ⟨hc.1, hc.2.1, hc.2.2.1, hc.2.2.2.1, hc.2.2.2.2.1⟩, ?_⟩
  subst e
  rw [rX, mU_ne (d := 45) _ _ (by omega), mU_ne (d := 60) _ _ (by omega)]
  exact h.2
theorem rB.putM {n m : Nat} {v0 v v1 : Nat → Nat → Int32} {k : Nat} {y : Int32} (h : rB n v0 v) (e : v1 = mU v 45 (upd (v 45) k y)) (h12 : 1 ≠ k ∧ 2 ≠ k) (h4 : if 4 = k then 0 ≤ y.toInt ∧ y.toInt ≤ m else n ≤ m) : rB m v0 v1 := by
  refine ⟨h.1.putM e (fun z => absurd z h12.2) h4, ?_⟩
  subst e
  rw [rX, mU_self, mU_ne (d := 60) _ _ (by decide)]
  simp only [upd, if_neg h12.1, if_neg h12.2]
  exact h.2
theorem rB.putO {n : Nat} {v0 v v1 : Nat → Nat → Int32} {k : Nat} {y : Int32} (h : rB n v0 v) (e : v1 = mU v 45 (upd (v 45) k y)) (hk : 1 ≠ k ∧ 2 ≠ k ∧ 4 ≠ k) : rB n v0 v1 := h.putM e ⟨hk.1, hk.2.1⟩ (by rw [if_neg hk.2.2]; exact Nat.le_refl _)
theorem rB.put57 {n : Nat} {v0 v v1 : Nat → Nat → Int32} {k : Nat} {y : Int32} (h : rB n v0 v) (e : v1 = mU v 57 (upd (v 57) k y)) (hy : 0 ≤ y.toInt) : rB n v0 v1 := by
  refine ⟨h.1.put57 e hy, ?_⟩
  subst e
  rw [rX, mU_ne (d := 45) _ _ (by decide), mU_ne (d := 60) _ _ (by decide)]
  exact h.2
theorem rB.put67 {n : Nat} {v0 v v1 : Nat → Nat → Int32} {k : Nat} {y : Int32} (h : rB n v0 v) (e : v1 = mU v 67 (upd (v 67) k y)) (hy : 0 ≤ y.toInt ∧ y.toInt < 16) : rB n v0 v1 := by
  refine ⟨h.1.put67 e hy, ?_⟩
  subst e
  rw [rX, mU_ne (d := 45) _ _ (by decide), mU_ne (d := 60) _ _ (by decide)]
  exact h.2
theorem rB.put68 {n : Nat} {v0 v v1 : Nat → Nat → Int32} {k : Nat} {y : Int32} (h : rB n v0 v) (e : v1 = mU v 68 (upd (v 68) k y)) (hy : 0 ≤ y.toInt ∧ y.toInt < 12) : rB n v0 v1 := by
  refine ⟨h.1.put68 e hy, ?_⟩
  subst e
  rw [rX, mU_ne (d := 45) _ _ (by decide), mU_ne (d := 60) _ _ (by decide)]
  exact h.2
theorem rA.putO {n : Nat} {v0 v v1 : Nat → Nat → Int32} {k : Nat} {y : Int32} (h : rA n v0 v) (e : v1 = mU v 45 (upd (v 45) k y)) (hk : 2 ≠ k ∧ 4 ≠ k) : rA n v0 v1 := h.putM e (fun z => absurd z hk.1) (by rw [if_neg hk.2]; exact Nat.le_refl _)
theorem rC.putO {n : Nat} {v0 v v1 : Nat → Nat → Int32} {k : Nat} {y : Int32} (h : rC n v0 v) (e : v1 = mU v 45 (upd (v 45) k y)) (hk : 2 ≠ k ∧ 4 ≠ k) : rC n v0 v1 := h.putM e (fun z => absurd z hk.1) (by rw [if_neg hk.2]; exact Nat.le_refl _)
/-- the letters: their number is the sum of the open ones, these are bounded -/
def rQ (v : Nat → Nat → Int32) (B : Nat → Int) : Prop := (v 45 3).toInt = smR (v 56) 12 ∧ 0 ≤ (v 45 3).toInt ∧ ∀ s, s < 12 → (v 56 s).toInt ≤ B s
def rL (v : Nat → Nat → Int32) : Prop := rQ v (fun s => bd (v 52 s))
theorem rQ.put {v v1 : Nat → Nat → Int32} {B : Nat → Int} {c : Nat} {x : Nat → Int32} (h : rQ v B) (e : v1 = mU v c x) (hc : c ≠ 45 ∧ c ≠ 56) : rQ v1 B := by
  subst e
  unfold rQ
  rw [mU_ne (d := 45) _ _ (by omega), mU_ne (d := 56) _ _ (by omega)]
  exact h
theorem rQ.putM {v v1 : Nat → Nat → Int32} {B : Nat → Int} {k : Nat} {y : Int32} (h : rQ v B) (e : v1 = mU v 45 (upd (v 45) k y)) (hk : 3 ≠ k) : rQ v1 B := by
  subst e
  unfold rQ
  rw [mU_self, mU_ne (d := 56) _ _ (by omega)]
  have : upd (v 45) k y 3 = v 45 3 := by simp [upd, hk]
  rw [this]
  exact h
theorem rL.put {v v1 : Nat → Nat → Int32} {c : Nat} {x : Nat → Int32} (h : rL v) (e : v1 = mU v c x) (hc : c ≠ 45 ∧ c ≠ 56 ∧ c ≠ 52) : rL v1 := by
  have := rQ.put h e ⟨hc.1, hc.2.1⟩
  unfold rL
  rw [e, mU_ne (d := 52) _ _ (by omega), ← e]
  exact this
theorem rL.putM {v v1 : Nat → Nat → Int32} {k : Nat} {y : Int32} (h : rL v) (e : v1 = mU v 45 (upd (v 45) k y)) (hk : 3 ≠ k) : rL v1 := by
  have := rQ.putM h e hk
  unfold rL
  rw [e, mU_ne (d := 52) _ _ (by omega), ← e]
  exact this
theorem rQ.mono {v : Nat → Nat → Int32} {B B' : Nat → Int} (h : rQ v B) (hB : ∀ s, s < 12 → B s ≤ B' s) : rQ v B' := ⟨h.1, h.2.1, fun s hs => Int.le_trans (h.2.2 s hs) (hB s hs)⟩
theorem rQ.le {v : Nat → Nat → Int32} {B : Nat → Int} (h : rQ v B) {b : Int} (hB : ∀ s, s < 12 → B s ≤ b) : (v 45 3).toInt ≤ b * 12 := by
  rw [h.1]
  exact smR_le 12 (fun x hx => Int.le_trans (h.2.2 x hx) (hB x hx))
theorem kt_mad {c k j t u : Int32} {C i i2 : Nat} (hc : c = nI C) (ek : k = nI i) (ej : j = nI i2) (e1 : t = c * k) (e2 : u = t + j) : u = nI (C * i + i2) := by
  rw [e2, e1, hc, ek, ej, ← nI_add]
  congr 1
  exact (Int32.ofNat_mul C i).symm
theorem kt_addI {x y : Int32} (hx : -1000000 ≤ x.toInt) (hx2 : x.toInt ≤ 1000000) (hy : y = x + 1) : y.toInt = x.toInt + 1 := by
  rw [hy, Int32.toInt_add, L1]
  exact Int.bmod_eq_of_le (by omega) (by omega)
theorem kt_subI {x y : Int32} (hx : -1000000 ≤ x.toInt) (hx2 : x.toInt ≤ 1000000) (hy : y = x - 1) : y.toInt = x.toInt - 1 := by
  rw [hy, Int32.toInt_sub, L1]
  exact Int.bmod_eq_of_le (by omega) (by omega)
def rk (q x : Int32) : Nat := if q = 0 then (if x = 0 then 0 else if x = 4 then 1 else if x = 3 then 2 else if x = 2 then 3 else 4) else (if x = 0 then 0 else if x = 2 then 1 else if x = 4 then 2 else 3)
theorem rk_lt {q x r : Int32} (h0 : x ≠ 0) (h : (x = 1 ∧ q ≠ 0 ∧ r = 4) ∨ (x = 1 ∧ q = 0 ∧ r = 2) ∨ (x = 2 ∧ r = 0) ∨ (x = 2 ∧ q = 0 ∧ r = 3) ∨ (x = 3 ∧ r = 4) ∨ (x = 4 ∧ q ≠ 0 ∧ r = 2) ∨ (x = 4 ∧ r = 0) ∨ ((x.toInt < 1 ∨ 4 < x.toInt) ∧ r = 2)) : rk q r < rk q x := by
  unfold rk
  rcases h with ⟨rfl, hq, rfl⟩ | ⟨rfl, rfl, rfl⟩ | ⟨rfl, rfl⟩ | ⟨rfl, rfl, rfl⟩ | ⟨rfl, rfl⟩ | ⟨rfl, hq, rfl⟩ | ⟨rfl, rfl⟩ | ⟨hx, rfl⟩
  · rw [if_neg hq, if_neg hq]; decide
  · decide
  · by_cases hq : q = 0
    · rw [if_pos hq, if_pos hq]; decide
    · rw [if_neg hq, if_neg hq]; decide
  · decide
  · by_cases hq : q = 0
    · rw [if_pos hq, if_pos hq]; decide
    · rw [if_neg hq, if_neg hq]; decide
  · rw [if_neg hq, if_neg hq]; decide
  · by_cases hq : q = 0
    · rw [if_pos hq, if_pos hq]; decide
    · rw [if_neg hq, if_neg hq]; decide
  · have n2 : x ≠ 2 := by rintro rfl; exact absurd hx (by decide)
    have n3 : x ≠ 3 := by rintro rfl; exact absurd hx (by decide)
    have n4 : x ≠ 4 := by rintro rfl; exact absurd hx (by decide)
    by_cases hq : q = 0
    · rw [if_pos hq, if_pos hq, if_neg h0, if_neg n4, if_neg n3, if_neg n2]; decide
    · rw [if_neg hq, if_neg hq, if_neg h0, if_neg n2, if_neg n4]; decide
