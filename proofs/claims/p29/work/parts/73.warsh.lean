section K4
theorem fNx_b {al im : Nat → Int32} {n : Nat} (hn : n ≤ 24) {nx : Nat → Int32} {a b : Nat} (ha : a < n) : ∀ {i : Nat}, i ≤ n → (bt (fNx al im n nx i a) b = true ↔ ∃ j, j < i ∧ fE al n n j = a ∧ ∃ l, l < n ∧ bt (im j) l = true ∧ fE al n n l = b)
  | 0, _ => by
    constructor
    · intro h
      have h' : bt (if a < n then 0 else nx a) b = true := h
      rw [if_pos ha, bt_zero] at h'
      exact absurd h' (by decide)
    · rintro ⟨j, hj, -⟩; omega
  | i + 1, hi => by
    have ih := fNx_b (al := al) (im := im) hn (nx := nx) (b := b) ha (i := i) (by omega)
    unfold fNx
    by_cases h0 : im i = 0
    · rw [if_pos h0, ih]
      constructor
      · rintro ⟨j, h1, h2⟩
        exact ⟨j, by omega, h2⟩
      · rintro ⟨j, h1, h2, l, h3, h4, h5⟩
        by_cases e : j = i
        · subst e; rw [h0, bt_zero] at h4; exact absurd h4 (by decide)
        · exact ⟨j, by omega, h2, l, h3, h4, h5⟩
    · rw [if_neg h0]
      by_cases e : a = fE al n n i
      · rw [show upd (fNx al im n nx i) (fE al n n i) (fNx al im n nx i (fE al n n i) ||| fEnds al n (im i) n) a = fNx al im n nx i a ||| fEnds al n (im i) n by rw [← e]; simp [upd], b_or, Bool.or_eq_true, ih, fEnds_b hn (Nat.le_refl n)]
        constructor
        · rintro (⟨j, h1, h2⟩ | h)
          · exact ⟨j, by omega, h2⟩
          · exact ⟨i, by omega, e.symm, h⟩
        · rintro ⟨j, h1, h2, h3⟩
          by_cases e2 : j = i
          · subst e2; exact Or.inr h3
          · exact Or.inl ⟨j, by omega, h2, h3⟩
      · rw [show upd (fNx al im n nx i) (fE al n n i) (fNx al im n nx i (fE al n n i) ||| fEnds al n (im i) n) a = fNx al im n nx i a from if_neg e, ih]
        constructor
        · rintro ⟨j, h1, h2⟩
          exact ⟨j, by omega, h2⟩
        · rintro ⟨j, h1, h2, h3⟩
          by_cases e2 : j = i
          · subst e2; exact absurd h2.symm e
          · exact ⟨j, by omega, h2, h3⟩
theorem fNx_to {al im : Nat → Int32} {n : Nat} (hn : n ≤ 24) {nx : Nat → Int32} {a b : Nat} (ha : a < n) : bt (fNx al im n nx n a) b = true ↔ zTo al im n a b := fNx_b hn ha (Nat.le_refl n)
theorem fRo_eq {mid : Nat} {re : Nat → Int32} : ∀ (i a : Nat), fRo mid re i a = if a < i ∧ bt (re a) mid = true then re a ||| re mid else re a
  | 0, a => by rw [if_neg (by omega)]; rfl
  | i + 1, a => by
    have h1 : fRo mid re i i = re i := by rw [fRo_eq i i, if_neg (by omega)]
    have h2 : fRo mid re i mid = re mid := by
      rw [fRo_eq i mid]
      split
      · exact b_ext (fun j _ => by rw [b_or, Bool.or_self])
      · rfl
    unfold fRo
    rw [h1, h2]
    by_cases e : bt (re i) mid = true
    · rw [if_pos e]
      by_cases e2 : a = i
      · subst e2
        rw [if_pos ⟨by omega, e⟩]
        simp [upd]
      · rw [show upd (fRo mid re i) i (re i ||| re mid) a = fRo mid re i a from if_neg e2, fRo_eq i a]
        by_cases e3 : a < i ∧ bt (re a) mid = true
        · rw [if_pos e3, if_pos ⟨by omega, e3.2⟩]
        · rw [if_neg e3, if_neg (fun q => e3 ⟨by omega, q.2⟩)]
    · rw [if_neg e, fRo_eq i a]
      by_cases e3 : a < i ∧ bt (re a) mid = true
      · rw [if_pos e3, if_pos ⟨by omega, e3.2⟩]
      · rw [if_neg e3, if_neg (fun q => e3 ⟨by
          by_cases e4 : a = i
          · subst e4; exact absurd q.2 e
          · omega, q.2⟩)]
theorem fRo_b {mid n : Nat} {re : Nat → Int32} {a b : Nat} (ha : a < n) : bt (fRo mid re n a) b = true ↔ bt (re a) b = true ∨ (bt (re a) mid = true ∧ bt (re mid) b = true) := by
  rw [fRo_eq n a]
  by_cases e : bt (re a) mid = true
  · rw [if_pos ⟨ha, e⟩, b_or, Bool.or_eq_true]
    exact ⟨fun h => h.imp id (fun h => ⟨e, h⟩), fun h => h.imp id (fun h => h.2)⟩
  · rw [if_neg (fun q => e q.2)]
    exact ⟨Or.inl, fun h => h.elim id (fun h => absurd h.1 e)⟩
theorem zWay_app {R : Nat → Nat → Prop} {a b c : Nat} (h1 : zWay R a b) (h2 : zWay R b c) : zWay R a c := by
  obtain ⟨k, h2⟩ := h2
  induction k generalizing c with
  | zero => have e : b = c := h2; rw [← e]; exact h1
  | succ k ih =>
    obtain ⟨d, w, r⟩ := h2
    exact zWay_more (ih w) r
theorem zWay_dead {R : Nat → Nat → Prop} {a b : Nat} (h : ∀ c, ¬ R a c) (w : zWay R a b) : a = b := by
  obtain ⟨k, w⟩ := w
  induction k generalizing b with
  | zero => exact w
  | succ k ih =>
    obtain ⟨c, w, r⟩ := w
    have e := ih w
    rw [← e] at r
    exact absurd r (h b)
theorem fRe_all {n : Nat} (hn : n ≤ 24) {nx re : Nat → Int32} : ∀ i, i ≤ n →
    (∀ a b, a < n → bt (fRe n nx re i a) b = true → zWay (fun x y => bt (nx x) y = true) a b) ∧
    (∀ a, a < n → bt (fRe n nx re i a) a = true) ∧ (∀ a b, a < n → bt (nx a) b = true → bt (fRe n nx re i a) b = true) ∧
    ∀ a b c, a < n → c < i → bt (fRe n nx re i a) c = true → bt (fRe n nx re i c) b = true → bt (fRe n nx re i a) b = true
  | 0, _ => by
    have e : ∀ a b, a < n → (bt (fRe n nx re 0 a) b = true ↔ bt (nx a) b = true ∨ b = a) := fun a b ha => by
      show bt (if a < n then nx a ||| sh1 a else re a) b = true ↔ _
      rw [if_pos ha, b_or, Bool.or_eq_true, bt_shn (by omega), decide_eq_true_eq]
    refine ⟨fun a b ha h => ?_, fun a ha => (e a a ha).mpr (Or.inr rfl), fun a b ha h => (e a b ha).mpr (Or.inl h), fun a b c _ hc => absurd hc (by omega)⟩
    rcases (e a b ha).mp h with h | h
    · exact zWay_more (zWay_none a) h
    · rw [h]; exact zWay_none a
  | i + 1, hi => by
    obtain ⟨h1, h2, h3, h4⟩ := fRe_all hn (nx := nx) (re := re) i (by omega)
    unfold fRe
    by_cases e0 : nx i = 0
    · rw [if_pos e0]
      refine ⟨h1, h2, h3, fun a b c ha hc w1 w2 => ?_⟩
      by_cases e : c = i
      · subst e
        have e2 := zWay_dead (fun d => by rw [e0, bt_zero]; decide) (h1 c b (by omega) w2)
        rw [← e2]; exact w1
      · exact h4 a b c ha (by omega) w1 w2
    · rw [if_neg e0]
      generalize fRe n nx re i = r at *
      refine ⟨fun a b ha h => ?_, fun a ha => (fRo_b ha).mpr (Or.inl (h2 a ha)), fun a b ha h => (fRo_b ha).mpr (Or.inl (h3 a b ha h)), fun a b c ha hc w1 w2 => ?_⟩
      · rcases (fRo_b ha).mp h with h | ⟨h, h'⟩
        · exact h1 a b ha h
        · exact zWay_app (h1 a i ha h) (h1 i b (by omega) h')
      · rw [fRo_b ha] at w1 ⊢
        rw [fRo_b (show c < n by omega)] at w2
        by_cases e : c = i
        · subst e
          have w1' : bt (r a) c = true := w1.elim id (fun q => q.1)
          have w2' : bt (r c) b = true := w2.elim id (fun q => q.2)
          exact Or.inr ⟨w1', w2'⟩
        · have hci : c < i := by omega
          rcases w1 with w1 | ⟨w1, w1'⟩
          · rcases w2 with w2 | ⟨w2, w2'⟩
            · exact Or.inl (h4 a b c ha hci w1 w2)
            · exact Or.inr ⟨h4 a i c ha hci w1 w2, w2'⟩
          · rcases w2 with w2 | ⟨w2, w2'⟩
            · exact Or.inr ⟨w1, h4 i b c (by omega) hci w1' w2⟩
            · exact Or.inr ⟨w1, w2'⟩
/-- what the class reaches are the ways -/
theorem fRe_way {n : Nat} (hn : n ≤ 24) {nx re : Nat → Int32} (hx : ∀ a b, a < n → bt (nx a) b = true → b < n) {a b : Nat} (ha : a < n) : bt (fRe n nx re n a) b = true ↔ zWay (fun x y => bt (nx x) y = true) a b := by
  obtain ⟨h1, h2, h3, h4⟩ := fRe_all hn (nx := nx) (re := re) n (Nat.le_refl n)
  refine ⟨h1 a b ha, fun w => ?_⟩
  have go : ∀ k b, zWn (fun x y => bt (nx x) y = true) k a b → b < n ∧ bt (fRe n nx re n a) b = true := by
    intro k
    induction k with
    | zero => intro b w; have e : a = b := w; rw [← e]; exact ⟨ha, h2 a ha⟩
    | succ k ih =>
      intro b w
      obtain ⟨c, w, r⟩ := w
      obtain ⟨hc, hr⟩ := ih c w
      exact ⟨hx c b hc r, h4 a b c ha hc hr (h3 c b hc r)⟩
  obtain ⟨k, w⟩ := w
  exact (go k b w).2
end K4
