section K7
theorem fFind_is {q : Nat → Bool} {n : Nat} : ∀ (f k : Nat), k + f = n → ((fFind q n f k).isSome = true ↔ ∃ i, k ≤ i ∧ i < n ∧ q i = true)
  | 0, k, h => by
    constructor
    · intro h; exact absurd (show (none : Option Nat).isSome = true from h) (by decide)
    · rintro ⟨i, h1, h2, -⟩; omega
  | f + 1, k, h => by
    rw [fFind_s, if_pos (by omega)]
    by_cases e : q k = true
    · rw [if_pos e]
      exact ⟨fun _ => ⟨k, Nat.le_refl _, by omega, e⟩, fun _ => rfl⟩
    · rw [if_neg e, fFind_is f (k + 1) (by omega)]
      constructor
      · rintro ⟨i, h1, h2⟩; exact ⟨i, by omega, h2⟩
      · rintro ⟨i, h1, h2, h3⟩
        by_cases e2 : i = k
        · subst e2; exact absurd h3 e
        · exact ⟨i, by omega, h2, h3⟩
def zCy (R : Nat → Nat → Prop) : Prop := ∃ a b, R a b ∧ zWay R b a
theorem fE_end {al : Nat → Int32} {n a : Nat} (hac : zAc al n) (h : ∃ j, j < n ∧ fE al n n j = a) : al a = -1 := by
  obtain ⟨j, hj, e⟩ := h
  rw [← e]
  exact hac.2 j hj
theorem fCir_cy {al im : Nat → Int32} {n : Nat} (hn : n ≤ 24) (hac : zAc al n) : fCir al im n = true ↔ zCy (zTo al im n) := by
  unfold fCir
  rw [fFind_is n 0 (by omega)]
  constructor
  · rintro ⟨t, _, ht, h⟩
    rw [Bool.and_eq_true, fClo_way hn] at h
    obtain ⟨-, b, h1, h2⟩ := h
    obtain ⟨a, h3, h4⟩ := (fOn_to hn).mp h1
    rw [bt_shn (by omega), decide_eq_true_eq] at h3
    subst h3
    exact ⟨a, b, h4, h2⟩
  · rintro ⟨a, b, h1, h2⟩
    have ha := (zTo_lt hn h1).1
    obtain ⟨j, hj, e, -⟩ := id h1
    refine ⟨a, Nat.zero_le _, ha, ?_⟩
    rw [Bool.and_eq_true, fClo_way hn]
    refine ⟨decide_eq_true (fE_end hac ⟨j, hj, e⟩), b, ?_, h2⟩
    exact (fOn_to hn).mpr ⟨a, by rw [bt_shn (by omega)]; exact decide_eq_true rfl, h1⟩
theorem zWay_mono {R S : Nat → Nat → Prop} (h : ∀ a b, R a b → S a b) {a b : Nat} (w : zWay R a b) : zWay S a b := by
  obtain ⟨k, w⟩ := w
  induction k generalizing b with
  | zero => exact ⟨0, w⟩
  | succ k ih =>
    obtain ⟨c, w, r⟩ := w
    exact zWay_more (ih w) (h c b r)
/-- one more step from u to v -/
theorem zWay_add {R : Nat → Nat → Prop} {u v a b : Nat} (w : zWay (fun x y => R x y ∨ (x = u ∧ y = v)) a b) : zWay R a b ∨ (zWay R a u ∧ zWay R v b) := by
  obtain ⟨k, w⟩ := w
  induction k generalizing b with
  | zero => exact Or.inl ⟨0, w⟩
  | succ k ih =>
    obtain ⟨c, w, r⟩ := w
    rcases ih w with h | ⟨h1, h2⟩
    · rcases r with r | ⟨e1, e2⟩
      · exact Or.inl (zWay_more h r)
      · rw [← e1, ← e2]; exact Or.inr ⟨h, zWay_none b⟩
    · rcases r with r | ⟨e1, e2⟩
      · exact Or.inr ⟨h1, zWay_more h2 r⟩
      · rw [← e2]; rw [← e2] at h2; exact Or.inr ⟨h1, zWay_none b⟩
theorem zCy_add {R : Nat → Nat → Prop} {u v : Nat} : zCy (fun x y => R x y ∨ (x = u ∧ y = v)) ↔ zCy R ∨ zWay R v u := by
  constructor
  · rintro ⟨a, b, r, w⟩
    rcases zWay_add w with h | ⟨h1, h2⟩
    · rcases r with r | ⟨e1, e2⟩
      · exact Or.inl ⟨a, b, r, h⟩
      · rw [← e1, ← e2]; exact Or.inr h
    · rcases r with r | ⟨e1, e2⟩
      · exact Or.inr (zWay_app (zWay_more h2 r) h1)
      · rw [e2] at h1; exact Or.inr h1
  · rintro (⟨a, b, r, w⟩ | w)
    · exact ⟨a, b, Or.inl r, zWay_mono (fun _ _ r => Or.inl r) w⟩
    · exact ⟨u, v, Or.inr ⟨rfl, rfl⟩, zWay_mono (fun _ _ r => Or.inl r) w⟩
/-- an implication more: one step more -/
theorem zTo_imp {al im : Nat → Int32} {n t o : Nat} (hn : n ≤ 24) (ht : t < n) (ho : o < n) (a b : Nat) : zTo al (upd im t (im t ||| sh1 o)) n a b ↔ zTo al im n a b ∨ (a = fE al n n t ∧ b = fE al n n o) := by
  constructor
  · rintro ⟨j, hj, e, l, hl, hb, e2⟩
    by_cases q : j = t
    · subst q
      have hb' : bt (im j ||| sh1 o) l = true := by simpa [upd] using hb
      rw [b_or, Bool.or_eq_true, bt_shn (by omega), decide_eq_true_eq] at hb'
      rcases hb' with hb' | hb'
      · exact Or.inl ⟨j, hj, e, l, hl, hb', e2⟩
      · subst hb'; exact Or.inr ⟨e.symm, e2.symm⟩
    · exact Or.inl ⟨j, hj, e, l, hl, by simpa [upd, q] using hb, e2⟩
  · rintro (⟨j, hj, e, l, hl, hb, e2⟩ | ⟨e1, e2⟩)
    · refine ⟨j, hj, e, l, hl, ?_, e2⟩
      by_cases q : j = t
      · subst q; simp [upd, b_or, hb]
      · simpa [upd, q] using hb
    · refine ⟨t, ht, e1.symm, o, ho, ?_, e2.symm⟩
      simp [upd, b_or, bt_shn (show o < 32 by omega)]
theorem zCy_cg {R S : Nat → Nat → Prop} (h : ∀ a b, R a b ↔ S a b) : zCy R ↔ zCy S :=
  ⟨fun ⟨a, b, r, w⟩ => ⟨a, b, (h a b).mp r, zWay_mono (fun a b => (h a b).mp) w⟩, fun ⟨a, b, r, w⟩ => ⟨a, b, (h a b).mpr r, zWay_mono (fun a b => (h a b).mpr) w⟩⟩
end K7
