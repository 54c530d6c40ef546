theorem kt_row2 {x t y z : Int32} (h0 : ¬ x < 0) (h1 : x < 500) (hz0 : 0 ≤ z.toInt) (hz1 : z.toInt < 5) (ht : t = x * 5) (hy : y = t + z) : vp_in y 2500 := by
  obtain ⟨k, hk, rfl⟩ := kt_idx (x := z) (n := 5) hz0 hz1
  exact kt_row h0 h1 k hk ht hy
theorem kt_out (cI cZ cS cC cJ : ClassId) (a : Nat → Nat) (x : Nat → Int32) (r : Int32) : (.inl (cJ, 1, .inr (.inl (vp_updL (fun j => (x j).toInt64) (0 : Int32).toNatClampNeg r.toInt64))) : va_E) = gE cI cZ cS cC cJ a 80 (upd x 0 r) := by
  show (.inl (cJ, 1, .inr (.inl (vp_updL (fun j => (x j).toInt64) (0 : Int32).toNatClampNeg r.toInt64))) : va_E) = .inl (cJ, 1, .inr (.inl (fun j => (upd x 0 r j).toInt64)))
  have e : vp_updL (fun j => (x j).toInt64) (0 : Int32).toNatClampNeg r.toInt64 = fun j => (upd x 0 r j).toInt64 := by
    funext j
    show vp_updL _ 0 _ j = _
    by_cases h : j = 0
    · subst h; simp [vp_updL, upd]
    · simp [vp_updL, upd, h]
  rw [e]
theorem arrV_ext {cA : ClassId} {n : Nat} {f g : Nat → Value} (h : ∀ j, j < n → f j = g j) : arrV cA n f = arrV cA n g := by
  unfold arrV
  congr 1
  congr 1
  funext j
  exact h j.val j.isLt
theorem kt_arq {D : va_G} {cl : List vw_C} {q n : Nat} {cA : ClassId} {f g : Nat → Option Nat} {H : Heap} (h : va_at D cl (q, .inl (cA, n, .inr (.inr (.inr (.inr f))))) H) (e : ∀ j, j < n → f j = g j) : va_at D cl (q, .inl (cA, n, .inr (.inr (.inr (.inr g))))) H := by
  have h1 : H[q]? = some (vp_cell cA (n, .inr (.inr (.inr (.inr f))))) := h
  show H[q]? = some (vp_cell cA (n, .inr (.inr (.inr (.inr g)))))
  rw [h1, vp_cell_q, vp_cell_q, arrV_ext (f := fun j => va_rf (f j)) (g := fun j => va_rf (g j)) (fun j hj => by rw [e j hj])]
theorem mW_intro {D : va_G} {cl : List vw_C} {H : Heap} {L : va_W} {cI cZ cS cC cJ : ClassId} {a : Nat → Nat} {v : Nat → Nat → Int32} (hP : va_P D cl L H) (h : ∀ c, c < 81 → ∃ e, L[c]? = some (a c, e) ∧ (va_at D cl (a c, e) H → va_at D cl (a c, gE cI cZ cS cC cJ a c (v c)) H)) : va_P D cl (mW cI cZ cS cC cJ a v) H := by
  intro c q hq
  obtain ⟨hc, rfl⟩ := mW_of hq
  obtain ⟨e, h1, h2⟩ := h c hc
  exact h2 (hP c _ h1)
theorem mDD_of {A : Nat → Prop} {L : va_W} {a : Nat → Nat} (hD : va_D A L) (h : ∀ c, c < 81 → ∃ e, L[c]? = some (a c, e)) : mDD a ∧ ∀ c, c < 81 → A (a c) := by
  refine ⟨fun i j hi hj hij => ?_, fun c hc => ?_⟩
  · obtain ⟨e1, h1⟩ := h i hi
    obtain ⟨e2, h2⟩ := h j hj
    exact hD.1 i j _ _ h1 h2 hij
  · obtain ⟨e1, h1⟩ := h c hc
    exact hD.2 c _ h1
theorem rB.kfr {n : Nat} {v u : Nat → Nat → Int32} (h : rB n v v) (hk : ∀ c, 45 ≤ c → c ≠ 80 → u c = v c) : rB n u u := by
  have h := h.1.1
  refine ⟨⟨?_, rfl⟩, rfl, rfl, rfl⟩
  unfold rA
  rw [hk 45 (by decide) (by decide), hk 57 (by decide) (by decide), hk 59 (by decide) (by decide), hk 67 (by decide) (by decide), hk 68 (by decide) (by decide)]
  exact ⟨h.1, h.2.1, h.2.2.1, h.2.2.2.1, h.2.2.2.2.1, h.2.2.2.2.2.1, fun _ _ => rfl⟩
theorem rL.kfr {v u : Nat → Nat → Int32} (h : rL v) (hk : ∀ c, 45 ≤ c → c ≠ 80 → u c = v c) : rL u := by
  unfold rL rQ
  rw [hk 45 (by decide) (by decide), hk 52 (by decide) (by decide), hk 56 (by decide) (by decide)]
  exact h
theorem kI.rfr {v u : Nat → Nat → Int32} (h : kI v v) (hb : ∀ c, c < 45 → u c = v c) : kI u u := ⟨⟨⟨by rw [hb 0 (by decide)]; exact h.sc, fun _ _ => rfl⟩, rfl⟩, rfl, rfl, rfl⟩
def xD (x : Int32) (f : Nat → Int32) : Prop := ∀ w, w < 17 → (f w = 0 ∨ f w = 1) ∧ (f w = 1 ↔ dnb x w)
def xR0 (v : Nat → Nat → Int32) : Prop := v 0 5 = v 45 2 ∧ v 0 6 = v 45 1 ∧ (0 ≤ (v 0 6).toInt ∧ (v 0 6).toInt ≤ 100000) ∧ xD (v 5 1) (v 60)
theorem xR0.k {v u : Nat → Nat → Int32} (h : xR0 v) (hk : kI v u) : xR0 u := by
  unfold xR0
  rw [hk.2.1, hk.2.2.1, hk.2.2.2, hk.fr 45 (by decide), hk.fr 60 (by decide)]
  exact h
theorem xR0.r {n : Nat} {v u : Nat → Nat → Int32} (h : xR0 v) (hb : rB n v u) : xR0 u := by
  unfold xR0
  rw [hb.fr 0 (by decide), hb.fr 5 (by decide), hb.2.1, hb.2.2.1, hb.2.2.2]
  exact h
theorem xR0.secret {n : Nat} {v u w : Nat → Nat → Int32} {p0 p1 p2 p3 r r' : Int32} (h : xR0 v) (h1 : kJ v u) (h2 : rC n u w) (a : r = sp_sec p0 p1 p2 p3 (v 0 5) ∧ u 0 5 = sn_sec p0 p1 p2 p3 (v 0 5) ∧ u 0 6 = v 0 6 ∧ u 5 = v 5) (b : r' = sp_sec p0 p1 p2 p3 (u 45 2) ∧ w 45 2 = sn_sec p0 p1 p2 p3 (u 45 2) ∧ w 45 1 = u 45 1 ∧ w 60 = u 60) : xR0 w := by
  unfold xR0
  rw [h2.fr 0 (by decide), h2.fr 5 (by decide), a.2.1, a.2.2.1, a.2.2.2, b.2.1, b.2.2.1, b.2.2.2, h1.fr 45 (by decide), h1.fr 60 (by decide), ← h.1]
  exact ⟨rfl, h.2⟩
theorem xR0.tick {n : Nat} {v u w : Nat → Nat → Int32} {p0 r r' : Int32} (h : xR0 v) (h1 : kJ v u) (h2 : rC n u w) (a : r = sp_tk p0 (v 0 6) ∧ u 0 6 = sn_tk p0 (v 0 6) ∧ u 0 5 = v 0 5 ∧ u 5 = v 5) (b : r' = sp_tk p0 (u 45 1) ∧ w 45 1 = sn_tk p0 (u 45 1) ∧ w 45 2 = u 45 2 ∧ w 60 = u 60) : xR0 w := by
  unfold xR0
  rw [h2.fr 0 (by decide), h2.fr 5 (by decide), a.2.1, a.2.2.1, a.2.2.2, b.2.1, b.2.2.1, b.2.2.2, h1.fr 45 (by decide), h1.fr 60 (by decide), ← h.2.1]
  refine ⟨h.1, rfl, ?_, h.2.2.2⟩
  unfold sn_tk
  split
  · exact h.2.2.1
  · next z =>
    have h9 := kt_add (x := v 0 6) (y := p0) (z := v 0 6 + p0) h.2.2.1 ⟨by omega, by omega⟩ rfl
    have h0 := h.2.2.1
    omega
theorem xR0.secretE {v u w : Nat → Nat → Int32} {p0 p1 p2 p3 r r' : Int32} (h : xR0 v) (h1 : kJ v u) (a : r = sp_sec p0 p1 p2 p3 (v 0 5) ∧ u 0 5 = sn_sec p0 p1 p2 p3 (v 0 5) ∧ u 0 6 = v 0 6 ∧ u 5 = v 5) (b : r' = sp_sec p0 p1 p2 p3 (u 45 2) ∧ w 45 2 = sn_sec p0 p1 p2 p3 (u 45 2) ∧ w 45 1 = u 45 1 ∧ w 60 = u 60) : r = r' := by
  rw [a.1, b.1, h1.fr 45 (by decide), h.1]
theorem xR0.tickE {v u w : Nat → Nat → Int32} {p0 r r' : Int32} (h : xR0 v) (h1 : kJ v u) (a : r = sp_tk p0 (v 0 6) ∧ u 0 6 = sn_tk p0 (v 0 6) ∧ u 0 5 = v 0 5 ∧ u 5 = v 5) (b : r' = sp_tk p0 (u 45 1) ∧ w 45 1 = sn_tk p0 (u 45 1) ∧ w 45 2 = u 45 2 ∧ w 60 = u 60) : r = r' := by
  rw [a.1, b.1, h1.fr 45 (by decide), h.2.1]
abbrev dA (v u : Nat → Nat → Int32) (p0 p1 r : Int32) : Prop := u 0 = v 0 ∧ ((r = 0 ∧ u 5 1 = v 5 1 ∧ ∀ w, w < 17 → p0 = nI w → (p1 = 1 ↔ dnb (v 5 1) w)) ∨ (r = 1 ∧ ∃ w, w < 17 ∧ p0 = nI w ∧ ¬ (p1 = 1 ↔ dnb (v 5 1) w) ∧ u 5 1 = v 5 1 ^^^ ((1 : Int32) <<< (nI w &&& 31))))
abbrev dB (v u : Nat → Nat → Int32) (p0 p1 r : Int32) : Prop := (u 45 1 = v 45 1 ∧ u 45 2 = v 45 2) ∧ ((r = 0 ∧ u 60 = v 60 ∧ ∀ w, w < 17 → p0 = nI w → v 60 w = p1) ∨ (r = 1 ∧ ∃ w, w < 17 ∧ p0 = nI w ∧ v 60 w ≠ p1 ∧ u 60 = upd (v 60) w (vp_nar .boolean p1)))
theorem xD.eq {x : Int32} {f : Nat → Int32} {w : Nat} {p : Int32} (h : xD x f) (hw : w < 17) (hp : p = 0 ∨ p = 1) : f w = p ↔ (p = 1 ↔ dnb x w) := by
  obtain ⟨h1, h2⟩ := h w hw
  constructor
  · intro e; rw [← e]; exact h2
  · intro e; exact bit_eq h1 hp (h2.trans e.symm)
theorem xR0.downE {v u w : Nat → Nat → Int32} {p0 p1 r r' : Int32} (h : xR0 v) (h1 : kJ v u) (a : dA v u p0 p1 r) (b : dB u w p0 p1 r') (hp : p1 = 0 ∨ p1 = 1) : r = r' := by
  have hx := h.2.2.2
  have h60 : u 60 = v 60 := h1.fr 60 (by decide)
  rcases a.2 with ⟨a1, -, a3⟩ | ⟨a1, i, a2, a3, a4, -⟩ <;> rcases b.2 with ⟨b1, -, b3⟩ | ⟨b1, i', b2, b3, b4, -⟩
  · rw [a1, b1]
  · exact absurd ((xD.eq hx b2 hp).mpr (a3 i' b2 b3)) (by rw [← h60]; exact b4)
  · exact absurd ((xD.eq hx a2 hp).mp (by rw [← h60]; exact b3 i a2 a3)) a4
  · rw [a1, b1]
theorem xR0.down {n : Nat} {v u w : Nat → Nat → Int32} {p0 p1 r r' : Int32} (h : xR0 v) (h1 : kJ v u) (h2 : rC n u w) (a : dA v u p0 p1 r) (b : dB u w p0 p1 r') (hp : p1 = 0 ∨ p1 = 1) : xR0 w := by
  have he := xR0.downE h h1 a b hp
  have h60 : u 60 = v 60 := h1.fr 60 (by decide)
  have hx := h.2.2.2
  unfold xR0
  rw [h2.fr 0 (by decide), h2.fr 5 (by decide), a.1, b.1.1, b.1.2, h1.fr 45 (by decide)]
  refine ⟨h.1, h.2.1, h.2.2.1, ?_⟩
  rcases a.2 with ⟨a1, a2, -⟩ | ⟨a1, i, a2, a3, a4, a5⟩ <;> rcases b.2 with ⟨b1, b2, -⟩ | ⟨b1, i', b2, b3, b4, b5⟩
  · rw [a2, b2, h60]; exact hx
  · exact absurd (a1.symm.trans (he.trans b1)) (by decide)
  · exact absurd (a1.symm.trans (he.trans b1)) (by decide)
  · obtain rfl : i = i' := (nI_eq (by omega) (by omega)).mp (a3.symm.trans b3)
    rw [a5, b5, h60]
    have hn : vp_nar .boolean p1 = p1 := by rcases hp with rfl | rfl <;> rfl
    rw [hn]
    intro q hq
    by_cases c : q = i
    · subst c
      rw [dnb_xor hq hq, if_pos rfl]
      simp only [upd, if_true]
      refine ⟨hp, ?_⟩
      constructor
      · intro e1 e2; exact a4 ⟨fun _ => e2, fun _ => e1⟩
      · intro e1
        rcases hp with e0 | e0
        · exact absurd ⟨fun z => absurd (e0.symm.trans z) (by decide), fun z => absurd z e1⟩ a4
        · exact e0
    · rw [dnb_xor a2 hq, if_neg c]
      simp only [upd, if_neg c]
      exact hx q hq
def xW (d : Nat → Int32) (f : Nat → Int32) : Prop := ∀ x y, x < 12 → y < 12 → (f (12 * x + y) = 0 ∨ f (12 * x + y) = 1) ∧ (f (12 * x + y) = 1 ↔ dnb (d x) y)
theorem xW.ne {d f : Nat → Int32} (h : xW d f) {x y : Nat} (hx : x < 12) (hy : y < 12) : dnb (d x) y ↔ f (12 * x + y) ≠ 0 := by
  obtain ⟨h1, h2⟩ := h x y hx hy
  rw [← h2]
  rcases h1 with z | z
  · rw [z]; exact ⟨fun q => absurd q (by decide), fun q => absurd rfl q⟩
  · rw [z]; exact ⟨fun _ => by decide, fun _ => rfl⟩
theorem isS.lt {n p : Int32} (h : isS n p) (hn : n.toInt ≤ 12) : ck p < 12 := by
  obtain ⟨i, hi, e⟩ := kt_idx (x := p) (n := 12) h.1 (by have := h.2; omega)
  rw [ck_of e (by omega)]
  exact hi
theorem rch_iff {d f : Nat → Int32} (h : xW d f) {s y : Nat} (hs : s < 12) : Rch (fun x z => dnb (d x) z) s y ↔ Rch (fun x z => f (12 * x + z) ≠ 0) s y := Rch.iff hs (fun x z hx hz => h.ne hx hz)
theorem hg_iff {n : Int32} {d f : Nat → Int32} {p0 p1 : Int32} (h : xW d f) (hn : n.toInt ≤ 12) : hgS n (fun x z => dnb (d x) z) p0 p1 ↔ hgS n (fun x z => f (12 * x + z) ≠ 0) p0 p1 := by
  unfold hgS
  constructor
  · rintro ⟨a, b, c⟩; exact ⟨a, b, (rch_iff h (a.lt hn)).mp c⟩
  · rintro ⟨a, b, c⟩; exact ⟨a, b, (rch_iff h (a.lt hn)).mpr c⟩
theorem ok_iff {n : Int32} {d f : Nat → Int32} {p0 p1 p2 : Int32} (h : xW d f) (hn : n.toInt ≤ 12) (hp : p2 = 0 ∨ p2 = 1) : okK n (fun x z => dnb (d x) z) p0 p1 p2 ↔ okR n f p0 p1 p2 := by
  unfold okK okR
  constructor
  · rintro ⟨a, b, c, q⟩
    refine ⟨a, b, fun z => c ?_, fun z => ⟨(q z).1, fun r => (q z).2 ((rch_iff h (b.lt hn)).mpr r)⟩⟩
    show dnb (d (ck p0)) (ck p1) ↔ p2 = 1
    rw [← z]
    exact (h _ _ (a.lt hn) (b.lt hn)).2.symm
  · rintro ⟨a, b, c, q⟩
    refine ⟨a, b, fun z => c ?_, fun z => ⟨(q z).1, fun r => (q z).2 ((rch_iff h (b.lt hn)).mp r)⟩⟩
    obtain ⟨h1, h2⟩ := h _ _ (a.lt hn) (b.lt hn)
    exact bit_eq h1 hp (h2.trans z)
def xR (v : Nat → Nat → Int32) : Prop := xR0 v ∧ xW (v 4) (v 59)
theorem xW.keep {n : Nat} {v u w : Nat → Nat → Int32} (h : xW (v 4) (v 59)) (h1 : kJ v u) (h2 : rC n u w) : xW (w 4) (w 59) := by
  rw [h2.fr 4 (by decide), h1.2, h2.2, h1.fr 59 (by decide)]
  exact h
theorem xR.k {v u : Nat → Nat → Int32} (h : xR v) (hk : kI v u) : xR u := ⟨h.1.k hk, by rw [hk.1.2, hk.fr 59 (by decide)]; exact h.2⟩
theorem xR.r {n : Nat} {v u : Nat → Nat → Int32} (h : xR v) (hb : rB n v u) : xR u := ⟨h.1.r hb, by rw [hb.fr 4 (by decide), hb.1.2]; exact h.2⟩
theorem xR.secret {n : Nat} {v u w : Nat → Nat → Int32} {p0 p1 p2 p3 r r' : Int32} (h : xR v) (h1 : kJ v u) (h2 : rC n u w) (a : r = sp_sec p0 p1 p2 p3 (v 0 5) ∧ u 0 5 = sn_sec p0 p1 p2 p3 (v 0 5) ∧ u 0 6 = v 0 6 ∧ u 5 = v 5) (b : r' = sp_sec p0 p1 p2 p3 (u 45 2) ∧ w 45 2 = sn_sec p0 p1 p2 p3 (u 45 2) ∧ w 45 1 = u 45 1 ∧ w 60 = u 60) : xR w := ⟨h.1.secret h1 h2 a b, h.2.keep h1 h2⟩
theorem xR.tick {n : Nat} {v u w : Nat → Nat → Int32} {p0 r r' : Int32} (h : xR v) (h1 : kJ v u) (h2 : rC n u w) (a : r = sp_tk p0 (v 0 6) ∧ u 0 6 = sn_tk p0 (v 0 6) ∧ u 0 5 = v 0 5 ∧ u 5 = v 5) (b : r' = sp_tk p0 (u 45 1) ∧ w 45 1 = sn_tk p0 (u 45 1) ∧ w 45 2 = u 45 2 ∧ w 60 = u 60) : xR w := ⟨h.1.tick h1 h2 a b, h.2.keep h1 h2⟩
theorem xR.secretE {v u w : Nat → Nat → Int32} {p0 p1 p2 p3 r r' : Int32} (h : xR v) (h1 : kJ v u) (a : r = sp_sec p0 p1 p2 p3 (v 0 5) ∧ u 0 5 = sn_sec p0 p1 p2 p3 (v 0 5) ∧ u 0 6 = v 0 6 ∧ u 5 = v 5) (b : r' = sp_sec p0 p1 p2 p3 (u 45 2) ∧ w 45 2 = sn_sec p0 p1 p2 p3 (u 45 2) ∧ w 45 1 = u 45 1 ∧ w 60 = u 60) : r = r' := h.1.secretE h1 a b
theorem xR.tickE {v u w : Nat → Nat → Int32} {p0 r r' : Int32} (h : xR v) (h1 : kJ v u) (a : r = sp_tk p0 (v 0 6) ∧ u 0 6 = sn_tk p0 (v 0 6) ∧ u 0 5 = v 0 5 ∧ u 5 = v 5) (b : r' = sp_tk p0 (u 45 1) ∧ w 45 1 = sn_tk p0 (u 45 1) ∧ w 45 2 = u 45 2 ∧ w 60 = u 60) : r = r' := h.1.tickE h1 a b
theorem xR.downE {v u w : Nat → Nat → Int32} {p0 p1 r r' : Int32} (h : xR v) (h1 : kJ v u) (a : dA v u p0 p1 r) (b : dB u w p0 p1 r') (hp : p1 = 0 ∨ p1 = 1) : r = r' := h.1.downE h1 a b hp
theorem xR.down {n : Nat} {v u w : Nat → Nat → Int32} {p0 p1 r r' : Int32} (h : xR v) (h1 : kJ v u) (h2 : rC n u w) (a : dA v u p0 p1 r) (b : dB u w p0 p1 r') (hp : p1 = 0 ∨ p1 = 1) : xR w := ⟨h.1.down h1 h2 a b hp, h.2.keep h1 h2⟩
theorem xR.hangsE {v u : Nat → Nat → Int32} {p0 p1 r r' : Int32} (h : xR v) (h1 : kI v u) (a : (r = 0 ∨ r = 1) ∧ (r = 1 ↔ hgS (v 0 5) (fun x z => dnb (v 4 x) z) p0 p1)) (b : (r' = 0 ∨ r' = 1) ∧ (r' = 1 ↔ hgS (u 45 2) (fun x z => u 59 (12 * x + z) ≠ 0) p0 p1)) : r = r' := by
  have hn : (v 0 5).toInt ≤ 12 := by have := h1.sc.2; rw [h1.2.1] at this; exact this
  have b2 := b.2
  rw [h1.fr 45 (by decide), h1.fr 59 (by decide), ← h.1.1, ← hg_iff h.2 hn] at b2
  exact bit_eq a.1 b.1 (a.2.trans b2.symm)
abbrev nA (v u : Nat → Nat → Int32) (p0 p1 p2 r : Int32) : Prop := u 0 = v 0 ∧ u 5 = v 5 ∧ ((r = 0 ∧ u 4 = v 4 ∧ ¬ okK (v 0 5) (fun x z => dnb (v 4 x) z) p0 p1 p2) ∨ (r = 1 ∧ okK (v 0 5) (fun x z => dnb (v 4 x) z) p0 p1 p2 ∧ ∀ x y, x < 12 → y < 12 → (dnb (u 4 x) y ↔ if x = ck p0 ∧ y = ck p1 then p2 = 1 else dnb (v 4 x) y)))
abbrev nB (v u : Nat → Nat → Int32) (p0 p1 p2 r : Int32) : Prop := (u 45 1 = v 45 1 ∧ u 45 2 = v 45 2 ∧ u 60 = v 60) ∧ ((r = 0 ∧ u 59 = v 59 ∧ ¬ okR (v 45 2) (v 59) p0 p1 p2) ∨ (r = 1 ∧ okR (v 45 2) (v 59) p0 p1 p2 ∧ u 59 = upd (v 59) (12 * ck p0 + ck p1) (vp_nar .boolean p2)))
theorem xR.nok {v u : Nat → Nat → Int32} {p0 p1 p2 : Int32} (h : xR v) (h1 : kH v u) (ha : u 0 = v 0) (hp : p2 = 0 ∨ p2 = 1) : okK (v 0 5) (fun x z => dnb (v 4 x) z) p0 p1 p2 ↔ okR (u 45 2) (u 59) p0 p1 p2 := by
  have hn : (v 0 5).toInt ≤ 12 := by have := h1.sc.2; rw [ha] at this; exact this
  rw [h1.fr 45 (by decide), h1.fr 59 (by decide), ← h.1.1]
  exact ok_iff h.2 hn hp
theorem xR.needsE {v u w : Nat → Nat → Int32} {p0 p1 p2 r r' : Int32} (h : xR v) (h1 : kH v u) (a : nA v u p0 p1 p2 r) (b : nB u w p0 p1 p2 r') (hp : p2 = 0 ∨ p2 = 1) : r = r' := by
  have hk := xR.nok (p0 := p0) (p1 := p1) h h1 a.1 hp
  rcases a.2.2 with ⟨a1, -, a3⟩ | ⟨a1, a2, -⟩ <;> rcases b.2 with ⟨b1, -, b3⟩ | ⟨b1, b2, -⟩
  · rw [a1, b1]
  · exact absurd (hk.mpr b2) a3
  · exact absurd (hk.mp a2) b3
  · rw [a1, b1]
theorem xR.needs {n : Nat} {v u w : Nat → Nat → Int32} {p0 p1 p2 r r' : Int32} (h : xR v) (h1 : kH v u) (h2 : rA n u w) (a : nA v u p0 p1 p2 r) (b : nB u w p0 p1 p2 r') (hp : p2 = 0 ∨ p2 = 1) : xR w := by
  have he := xR.needsE h h1 a b hp
  have h59 : u 59 = v 59 := h1.fr 59 (by decide)
  have hn : (v 0 5).toInt ≤ 12 := by have := h1.sc.2; rw [a.1] at this; exact this
  refine ⟨?_, ?_⟩
  · unfold xR0
    rw [h2.fr 0 (by decide), h2.fr 5 (by decide), a.1, a.2.1, b.1.1, b.1.2.1, b.1.2.2, h1.fr 45 (by decide), h1.fr 60 (by decide)]
    exact h.1
  · rw [h2.fr 4 (by decide)]
    rcases a.2.2 with ⟨a1, a2, -⟩ | ⟨a1, a2, a3⟩ <;> rcases b.2 with ⟨b1, b2, -⟩ | ⟨b1, -, b3⟩
    · rw [a2, b2, h59]; exact h.2
    · exact absurd (a1.symm.trans (he.trans b1)) (by decide)
    · exact absurd (a1.symm.trans (he.trans b1)) (by decide)
    · rw [b3, h59]
      have hv : vp_nar .boolean p2 = p2 := by rcases hp with rfl | rfl <;> rfl
      rw [hv]
      intro x y hx hy
      have c0 := a2.1.lt hn
      have c1 := a2.2.1.lt hn
      rw [a3 x y hx hy]
      by_cases c : x = ck p0 ∧ y = ck p1
      · rw [if_pos c, c.1, c.2]
        simp only [upd, if_true]
        exact ⟨hp, trivial⟩
      · rw [if_neg c]
        have e : ¬ 12 * x + y = 12 * ck p0 + ck p1 := fun z => c ⟨by omega, by omega⟩
        simp only [upd, if_neg e]
        exact h.2 x y hx hy
set_option maxHeartbeats 4000000 in
set_option maxRecDepth 100000 in
theorem c_X5_turned (l : Launch) (hT : l.stackTraces = false) (dC : Nat → ClassId) (dI : Nat → Nat → Nat) (cI cZ cS cC cJ : ClassId) (a : Nat → Nat) (v : Nat → Nat → Int32) (sz sa : Nat) (p0 p1 : Int32) (hD : mDD a) (hI : kI v v) : vx_Met l yX5_turned (Cond.code yX5_turned cX5_turned 3 (some .int) :: WW) ({ frames := 6, cells := 1, slots := 6, locals := 90 }) (va_Pc [.ref (a 0), .int p0, .int p1] (fun U => U.heap.size = sz ∧ va_P (dC, dI) vwCl (mW cI cZ cS cC cJ a v) U.heap ∧ va_K (dC, dI) vwCl [(cI, .int), (cZ, .boolean), (cS, .object RX3), (cC, .object RX0), (cJ, .long)] U ∧ mN U ∧ exU U ∧ vk_R RX5 191 exT sa U ∧ vx_Zq Bundle.tN "UNASSIGNED_STACK" Bundle.steD (mA a sz) U U.heap ∧ vx_Zq Bundle.tN "SUPPRESSED_SENTINEL" Bundle.listD (mA a sz) U U.heap)) (va_Qi (fun (_ : Int32) (_ : Unit) => True) (fun (_ : Unit) (t : State) => va_P (dC, dI) vwCl (mW cI cZ cS cC cJ a v) t.heap) (mA a sz)) (vx_X (fun (_ : Unit) => True) (fun (E : String) (_ : Unit) (t : State) => E = exN ∧ va_P (dC, dI) vwCl (mW cI cZ cS cC cJ a v) t.heap) (mA a sz)) 1 6 (mA a sz) := by
  refine vx_ofW (cc := cX5_turned) (maxL := 3) (ret := (some .int)) (by decide) rfl ?_
  intro p e s m args below meth c s₁ B hml htab hv
  obtain ⟨rfl, hsz, hP, hK, hN, hU0, hRs, hZ1, hZ2⟩ := hv
  have hx := B.exec
  have hb := B.bytes
  have hr := B.returns
  have hts := atoms_spec (ws := Cond.code yX5_turned cX5_turned 3 (some .int) :: WW) B.pre
  have hown : s.vm.findClass RX5 = some m.cls := findClass_of_methodNamed B.named
  have hlocks := B.notSynchronized
  subst hsz
  have hAc : ∀ c, c < 81 → mA a s.heap.size (a c) := fun c h => Or.inl ⟨c, h, rfl⟩
  have hA : ∀ q : Nat, s.heap.size ≤ q → mA a s.heap.size q := fun q h => Or.inr h
  generalize hAe : mA a s.heap.size = A at hAc hA hZ1 hZ2 ⊢
  have hS : va_S A s.heap s.heap [] := va_S.rf
  have hl := lv_entry ([.ref (a 0), .int p0, .int p1]) (n := 3) (Nat.le_of_ble_eq_true rfl)
  rw [lg_entry_eq]
  generalize (lg_sl ([.ref (a 0), .int p0, .int p1]) ++ List.replicate (3 - (lg_sl ([.ref (a 0), .int p0, .int p1])).length) Slot.unset).toArray = ls at hl ⊢
  have hl : lv_has ls 3 [(0, .ref (a 0)), (1, .int p0), (2, .int p1)] := hl
  refine lv_aload_n hx hb dX5_turned_0 rfl (lv_at hl 0 rfl) ?_
  refine va_get (D := (dC, dI)) (ci := 5) (v := .ref (a 7)) (C := RX5) (T := TX5) (N := 11) hx hb hts (fun w h => List.mem_cons_of_mem _ (inWX5 w h)) hown hK hP 0 at_0 rfl 4 (by decide) (hts _ (List.mem_cons_of_mem _ kw_t1_161)) (fun _ h9 => h9) rfl dX5_turned_1 ?_
  refine lv_iload_n hx hb dX5_turned_4 rfl (lv_at hl 1 rfl) ?_
  have hFc := mA_free (a := a) hS hA hAc
  refine va_calli (va_runV (As := [.int p0]) (rest := []) ⟨hx, hb, hml, hown, hts⟩ (c_X1_isKept l dC dI cI cZ cS cC cJ a v s.heap.size p0 hD hI.self) (cwV 1 hts (gV (fun w h => List.mem_cons_of_mem _ h) kw_t2_208 kw_t2_23 kw_t2_24 kw_t1_4 kw_t2_25) rfl rfl rfl (by decide +kernel) ⟨Nat.le_of_ble_eq_true rfl, Nat.le_of_ble_eq_true rfl⟩) ⟨fun av U g mk q => by obtain ⟨q0, q1, qP, qK, qN⟩ := q; exact ⟨q0, q1, qP, va_K.moved (u := U) (U := U.calling g mk av) (Vm.Alike.refl U.vm) qK, mN_same qN⟩, va_recv hK hP (ci := 1) (q0 := 7) rfl at_7, fun U hU hW => ⟨rfl, by rw [hU], by rw [hU]; exact hP, va_K.moved hW.alike hK, mN_warm hW hN⟩⟩ rfl rfl hl.1 rfl (lv_room (Nat.le_of_ble_eq_true rfl)) dX5_turned_5 ⟨Nat.le_of_ble_eq_true rfl, Nat.le_of_ble_eq_true rfl⟩) hS (fun q _ h => hFc q h) hFc (fun r_1 _ t H locs ht hvm hw_1 hP _ _ hS => ?_)
  have hP := kt_heap2 ht hP
  clear ht hFc
  have hP : va_P (dC, dI) vwCl (mW cI cZ cS cC cJ a v) H := hP
  rcases hw_1 with hk_2 | ⟨hk_2, ha_2, hb_2⟩
  · subst hk_2
    refine lv_if_eq (tgt := 20) hx hb dX5_turned_8 (by decide) (fun c_3 => ?_) (fun c_3 => absurd (by decide) c_3)
    exact kt_throwS hx hb hT bx0 bx1 bx2 bx5 (own := RX5) (cls := exN) (text := exT) (YN := exY) (names := [exE]) (ik := 189) (is := 191) (ic := 193) (sa := sa) (A := A) hown (by decide +kernel) (by decide +kernel) (by decide +kernel) (hts _ (List.mem_cons_of_mem _ kw_t2_209)) (hts _ (List.mem_cons_of_mem _ kw_t1_13)) hRs (ex_hat (fun w h => hts w (List.mem_cons_of_mem _ h)) hU0) ex_ot hZ1 hZ2 hS (hl.1.trans hml.symm) dX5_turned_20 dX5_turned_23 dX5_turned_24 dX5_turned_26 dX5_turned_29 (fun x hx => (htab x hx).elim) (by decide) (by decide) (by decide) (by decide) hlocks (fun t hvm hz hk => ⟨(), trivial, ⟨rfl, hP.kept (fun k q hq => hk q.1 (hP k q hq).lt)⟩, Nat.le_trans hS.1 hz, fun q h1 h2 => (hk q (Nat.lt_of_lt_of_le h1 hS.1)).trans (hS.2.1 q h1 h2)⟩) (fun z hz => hS.2.2 z hz) (Nat.le_refl _) (Nat.le_refl _)
  · subst hk_2
    refine lv_if_eq (tgt := 20) hx hb dX5_turned_8 (by decide) (fun c_4 => absurd c_4 (by decide)) (fun c_4 => ?_)
    refine lv_iload_n hx hb dX5_turned_11 rfl (lv_at hl 2 rfl) ?_
    refine lv_if_lt (tgt := 20) hx hb dX5_turned_12 (by decide) (fun c_5 => ?_) (fun c_5 => ?_)
    · exact kt_throwS hx hb hT bx0 bx1 bx2 bx5 (own := RX5) (cls := exN) (text := exT) (YN := exY) (names := [exE]) (ik := 189) (is := 191) (ic := 193) (sa := sa) (A := A) hown (by decide +kernel) (by decide +kernel) (by decide +kernel) (hts _ (List.mem_cons_of_mem _ kw_t2_209)) (hts _ (List.mem_cons_of_mem _ kw_t1_13)) hRs (ex_hat (fun w h => hts w (List.mem_cons_of_mem _ h)) hU0) ex_ot hZ1 hZ2 hS (hl.1.trans hml.symm) dX5_turned_20 dX5_turned_23 dX5_turned_24 dX5_turned_26 dX5_turned_29 (fun x hx => (htab x hx).elim) (by decide) (by decide) (by decide) (by decide) hlocks (fun t hvm hz hk => ⟨(), trivial, ⟨rfl, hP.kept (fun k q hq => hk q.1 (hP k q hq).lt)⟩, Nat.le_trans hS.1 hz, fun q h1 h2 => (hk q (Nat.lt_of_lt_of_le h1 hS.1)).trans (hS.2.1 q h1 h2)⟩) (fun z hz => hS.2.2 z hz) (Nat.le_refl _) (Nat.le_refl _)
    · refine lv_iload_n hx hb dX5_turned_15 rfl (lv_at hl 2 rfl) ?_
      refine lv_iconst (v := 5) hx hb dX5_turned_16 (by decide) ?_
      refine lv_icmp_lt (tgt := 30) hx hb dX5_turned_17 (by decide) (fun c_6 => ?_) (fun c_6 => ?_)
      · refine lv_aload_n hx hb dX5_turned_30 rfl (lv_at hl 0 rfl) ?_
        refine va_get (D := (dC, dI)) (ci := 5) (v := .ref (a 7)) (C := RX5) (T := TX5) (N := 11) hx hb hts (fun w h => List.mem_cons_of_mem _ (inWX5 w h)) hown hK hP 0 at_0 rfl 4 (by decide) (hts _ (List.mem_cons_of_mem _ kw_t1_161)) (fun _ h9 => h9) rfl dX5_turned_31 ?_
        refine va_get (D := (dC, dI)) (ci := 1) (v := .ref (a 8)) (C := RX1) (T := TX1) (N := 2) hx hb hts (fun w h => List.mem_cons_of_mem _ (inWX1 w h)) hown hK hP 7 at_7 rfl 0 (by decide) (hts _ (List.mem_cons_of_mem _ kw_t1_61)) (fun _ h9 => h9) rfl dX5_turned_34 ?_
        refine lv_iload_n hx hb dX5_turned_37 rfl (lv_at hl 1 rfl) ?_
        refine lv_iconst (v := 5) hx hb dX5_turned_38 (by decide) ?_
        refine lv_imul hx hb dX5_turned_39 ?_
        refine lv_topi (fun t_7 et_7 => ?_)
        refine lv_iload_n hx hb dX5_turned_40 rfl (lv_at hl 2 rfl) ?_
        refine lv_iadd hx hb dX5_turned_41 ?_
        refine lv_topi (fun t_8 et_8 => ?_)
        refine va_iald hx hb hK hP 8 0 at_8 rfl (kt_row2 ha_2 hb_2 (by have z0 := c_5; have z1 := c_6; (try simp only [Int32.lt_iff_toInt_lt, Int32.le_iff_toInt_le, ← Int32.toInt_inj, L0, L1, L2, L3, L4, L6, L9, L500, L5, L7, L10, L12, L15, L16, L20, L63, L1000, L1023, L2000, L10000, L100000, Lm1] at z0 z1); omega) (by have z0 := c_5; have z1 := c_6; (try simp only [Int32.lt_iff_toInt_lt, Int32.le_iff_toInt_le, ← Int32.toInt_inj, L0, L1, L2, L3, L4, L6, L9, L500, L5, L7, L10, L12, L15, L16, L20, L63, L1000, L1023, L2000, L10000, L100000, Lm1] at z0 z1); omega) et_7 et_8) dX5_turned_42 ?_
        refine lv_topi (fun t_9 et_9 => ?_)
        refine vx_ret ?_
        refine W.widen (k := 1) (n := 6) (by omega) (by omega) ?_
        exact W.iret (v := t_9) hx hb hr (fun t ht hW => ⟨⟨t_9, (), rfl, trivial, kt_heap ht hP⟩, hS.F ht⟩) hS.2.2 dX5_turned_43
      · exact kt_throwS hx hb hT bx0 bx1 bx2 bx5 (own := RX5) (cls := exN) (text := exT) (YN := exY) (names := [exE]) (ik := 189) (is := 191) (ic := 193) (sa := sa) (A := A) hown (by decide +kernel) (by decide +kernel) (by decide +kernel) (hts _ (List.mem_cons_of_mem _ kw_t2_209)) (hts _ (List.mem_cons_of_mem _ kw_t1_13)) hRs (ex_hat (fun w h => hts w (List.mem_cons_of_mem _ h)) hU0) ex_ot hZ1 hZ2 hS (hl.1.trans hml.symm) dX5_turned_20 dX5_turned_23 dX5_turned_24 dX5_turned_26 dX5_turned_29 (fun x hx => (htab x hx).elim) (by decide) (by decide) (by decide) (by decide) hlocks (fun t hvm hz hk => ⟨(), trivial, ⟨rfl, hP.kept (fun k q hq => hk q.1 (hP k q hq).lt)⟩, Nat.le_trans hS.1 hz, fun q h1 h2 => (hk q (Nat.lt_of_lt_of_le h1 hS.1)).trans (hS.2.1 q h1 h2)⟩) (fun z hz => hS.2.2 z hz) (Nat.le_refl _) (Nat.le_refl _)
set_option maxHeartbeats 4000000 in
set_option maxRecDepth 100000 in
theorem c_L_turned (l : Launch) (hT : l.stackTraces = false) (dC : Nat → ClassId) (dI : Nat → Nat → Nat) (cI cZ cS cC cJ : ClassId) (a : Nat → Nat) (v : Nat → Nat → Int32) (sz sa : Nat) (p0 p1 : Int32) (hD : mDD a) (hI : kI v v) : Met l yL_turned (Cond.codeWith yL_turned cL_turned 5 (some .int) [(0, 10, 13, 13)] :: WW) ({ frames := 7, cells := 1, slots := 6, locals := 120 }) (va_Pc [.ref (a 0), .int p0, .int p1, .ref (a 80)] (fun U => U.heap.size = sz ∧ va_P (dC, dI) vwCl (mW cI cZ cS cC cJ a v) U.heap ∧ va_K (dC, dI) vwCl [(cI, .int), (cZ, .boolean), (cS, .object RX3), (cC, .object RX0), (cJ, .long)] U ∧ mN U ∧ exU U ∧ vk_R RX5 191 exT sa U ∧ vx_Zq Bundle.tN "UNASSIGNED_STACK" Bundle.steD (mA a sz) U U.heap ∧ vx_Zq Bundle.tN "SUPPRESSED_SENTINEL" Bundle.listD (mA a sz) U U.heap)) (va_Qi (fun (_ : Int32) (u : Nat → Nat → Int32) => ∀ c, c ≠ 80 → u c = v c) (fun (u : Nat → Nat → Int32) (t : State) => va_P (dC, dI) vwCl (mW cI cZ cS cC cJ a u) t.heap) (mA a sz)) 1 6 (mA a sz) := by
  refine va_MetW (cc := cL_turned) (maxL := 5) (ret := (some .int)) (hh := [(0, 10, 13, 13)]) (by decide) rfl ?_
  intro p e s m args below meth c s₁ B hml hv
  obtain ⟨rfl, hsz, hP, hK, hN, hU0, hRs, hZ1, hZ2⟩ := hv
  have hx := B.exec
  have hb := B.bytes
  have hr := B.returns
  have hts := atoms_spec (ws := Cond.codeWith yL_turned cL_turned 5 (some .int) [(0, 10, 13, 13)] :: WW) B.pre
  have hown : s.vm.findClass RL = some m.cls := findClass_of_methodNamed B.named
  have hlocks := B.notSynchronized
  have htab := vx_table (x := yL_turned) B (hts _ List.mem_cons_self)
  subst hsz
  have hAc : ∀ c, c < 81 → mA a s.heap.size (a c) := fun c h => Or.inl ⟨c, h, rfl⟩
  have hA : ∀ q : Nat, s.heap.size ≤ q → mA a s.heap.size q := fun q h => Or.inr h
  generalize hAe : mA a s.heap.size = A at hAc hA hZ1 hZ2 ⊢
  have hS : va_S A s.heap s.heap [] := va_S.rf
  have hl := lv_entry ([.ref (a 0), .int p0, .int p1, .ref (a 80)]) (n := 5) (Nat.le_of_ble_eq_true rfl)
  rw [lg_entry_eq]
  generalize (lg_sl ([.ref (a 0), .int p0, .int p1, .ref (a 80)]) ++ List.replicate (5 - (lg_sl ([.ref (a 0), .int p0, .int p1, .ref (a 80)])).length) Slot.unset).toArray = ls at hl ⊢
  have hl : lv_has ls 5 [(0, .ref (a 0)), (1, .int p0), (2, .int p1), (3, .ref (a 80))] := hl
  refine lv_aload_n hx hb dL_turned_0 rfl (lv_at hl 3 rfl) ?_
  refine lv_iconst (v := 0) hx hb dL_turned_1 (by decide) ?_
  refine lv_aload_n hx hb dL_turned_2 rfl (lv_at hl 0 rfl) ?_
  refine lv_iload_n hx hb dL_turned_3 rfl (lv_at hl 1 rfl) ?_
  refine lv_iload_n hx hb dL_turned_4 rfl (lv_at hl 2 rfl) ?_
  have hFc := mA_free (a := a) hS hA hAc
  refine vx_calli (vx_runV (As := [.int p0, .int p1]) (rest := [.int 0, .ref (a 80)]) ⟨hx, hb, hml, hown, hts⟩ (c_X5_turned l hT dC dI cI cZ cS cC cJ a v s.heap.size sa p0 p1 hD hI) (cwV 2 hts (gV (fun w h => List.mem_cons_of_mem _ h) kw_t2_204 kw_t2_205 kw_t2_206 kw_t1_1 kw_t2_207) rfl rfl rfl (by decide +kernel) ⟨Nat.le_of_ble_eq_true rfl, Nat.le_of_ble_eq_true rfl⟩) ⟨fun av U g mk q => by obtain ⟨q0, q1, qP, qK, qN, qE0, qE1, qE2, qE3⟩ := q; exact ⟨q0, q1, qP, va_K.moved (u := U) (U := U.calling g mk av) (Vm.Alike.refl U.vm) qK, mN_same qN, exU.same rfl qE0, vk_R.same rfl qE1, vx_Zq.moved (u := U) (U := U.calling g mk av) (Vm.Alike.refl U.vm) qE2, vx_Zq.moved (u := U) (U := U.calling g mk av) (Vm.Alike.refl U.vm) qE3⟩, va_recv hK hP (ci := 5) (q0 := 0) rfl at_0, fun U hU hW => ⟨rfl, by rw [hU], by rw [hU]; exact hP, va_K.moved hW.alike hK, mN_warm hW hN, exU.warm hW hU0, vk_R.warm hW hRs, by rw [hU]; exact vx_Zq.moved hW.alike ((hZ1.kept hS.2.1).narrow hFc), by rw [hU]; exact vx_Zq.moved hW.alike ((hZ2.kept hS.2.1).narrow hFc)⟩⟩ rfl rfl hl.1 rfl (lv_room (Nat.le_of_ble_eq_true rfl)) dL_turned_5 ⟨Nat.le_of_ble_eq_true rfl, Nat.le_of_ble_eq_true rfl⟩) hS (fun q _ h => hFc q h) hFc (fun q _ h => hFc q h) (fun E ce q9 u t H locs ht hvm _ hE9 hz1 hk1 hS hce hcv hcl => ?_) (fun r u t H locs ht hvm _ hP _ _ hS => ?_)
  · obtain ⟨hE9, hP⟩ := hE9
    subst hE9
    have hP := kt_heap2 ht hP
    refine vx_catch hown ⟨0, 10, 13, 13⟩ [] (htab.trans rfl) (by decide) (by decide) (hts _ (List.mem_cons_of_mem _ kw_t2_203)) (va_Nw.use rfl hU0.1) hce hcv hcl ?_
    refine lv_astore (lv' := [(4, .ref q9), (0, .ref (a 0)), (1, .int p0), (2, .int p1), (3, .ref (a 80))]) hx hb dL_turned_13 hl (by decide) rfl (fun ls hl => ?_)
    refine lv_iconst (v := 1) hx hb dL_turned_15 (by decide) ?_
    exact W.iret (v := 1) hx hb hr (fun t ht hW => ⟨⟨1, v, rfl, fun _ _ => rfl, kt_heap ht hP⟩, hS.F ht⟩) hS.2.2 dL_turned_16
  · have hP := kt_heap2 ht hP
    refine lv_i2l (v := r.toInt64) hx hb dL_turned_8 rfl ?_
    refine va_last hx hb hK hP (mD_of hD hAc) hS 80 4 at_80 rfl (by unfold vp_in; decide) dL_turned_9 (fun H locs hP _ hS => ?_)
    have hP : va_P (dC, dI) vwCl (mW cI cZ cS cC cJ a (mU v 80 (upd (v 80) 0 r))) H := mW_put hP (by decide) (kt_out cI cZ cS cC cJ a (v 80) r)
    refine lv_goto (tgt := 17) hx hb dL_turned_10 (by decide) ?_
    refine lv_iconst (v := 0) hx hb dL_turned_17 (by decide) ?_
    exact W.iret (v := 0) hx hb hr (fun t ht hW => ⟨⟨0, mU v 80 (upd (v 80) 0 r), rfl, fun c hc => mU_ne _ _ hc, kt_heap ht hP⟩, hS.F ht⟩) hS.2.2 dL_turned_18
