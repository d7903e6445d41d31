section K3
/-! bits of the sets of the rules -/
theorem bt_shn {k i : Nat} (hk : k < 32) : bt (sh1 k) i = decide (i = k) := by
  rcases Nat.lt_or_ge i 32 with h | h
  · exact bt_sh1 hk h
  · rw [b_big h, decide_eq_false (by omega)]
theorem fEnds_b {al : Nat → Int32} {n : Nat} (hn : n ≤ 24) {x : Int32} {b : Nat} : ∀ {i : Nat}, i ≤ n → (bt (fEnds al n x i) b = true ↔ ∃ j, j < i ∧ bt x j = true ∧ fE al n n j = b)
  | 0, _ => by
    constructor
    · intro h; rw [show fEnds al n x 0 = 0 from rfl, bt_zero] at h; exact absurd h (by decide)
    · rintro ⟨j, hj, -⟩; omega
  | i + 1, hi => by
    have ih := fEnds_b (al := al) hn (x := x) (b := b) (i := i) (by omega)
    have hlt := fE_lt (al := al) (n := n) (by omega) n i (by omega)
    unfold fEnds
    cases hb : bt x i with
    | true =>
      rw [if_pos rfl, b_or, Bool.or_eq_true, ih, bt_shn (by omega), decide_eq_true_eq]
      constructor
      · rintro (⟨j, h1, h2, h3⟩ | h)
        · exact ⟨j, by omega, h2, h3⟩
        · exact ⟨i, by omega, hb, h.symm⟩
      · rintro ⟨j, h1, h2, h3⟩
        by_cases e : j = i
        · subst e; exact Or.inr h3.symm
        · exact Or.inl ⟨j, by omega, h2, h3⟩
    | false =>
      rw [if_neg (by decide), ih]
      constructor
      · rintro ⟨j, h1, h2, h3⟩
        exact ⟨j, by omega, h2, h3⟩
      · rintro ⟨j, h1, h2, h3⟩
        by_cases e : j = i
        · subst e; rw [hb] at h2; exact absurd h2 (by decide)
        · exact ⟨j, by omega, h2, h3⟩
/-- one implication acts from the end a to the end b -/
def zTo (al im : Nat → Int32) (n a b : Nat) : Prop := ∃ j, j < n ∧ fE al n n j = a ∧ ∃ l, l < n ∧ bt (im j) l = true ∧ fE al n n l = b
theorem fOn_b {al im : Nat → Int32} {n : Nat} (hn : n ≤ 24) {x : Int32} {b : Nat} : ∀ {i : Nat}, i ≤ n → (bt (fOn al im n x i) b = true ↔ ∃ j, j < i ∧ bt x (fE al n n j) = true ∧ ∃ l, l < n ∧ bt (im j) l = true ∧ fE al n n l = b)
  | 0, _ => by
    constructor
    · intro h; rw [show fOn al im n x 0 = 0 from rfl, bt_zero] at h; exact absurd h (by decide)
    · rintro ⟨j, hj, -⟩; omega
  | i + 1, hi => by
    have ih := fOn_b (al := al) (im := im) hn (x := x) (b := b) (i := i) (by omega)
    unfold fOn
    rw [b_or, Bool.or_eq_true, ih]
    cases hb : bt x (fE al n n i) with
    | true =>
      rw [if_pos rfl, fEnds_b hn (Nat.le_refl n)]
      constructor
      · rintro (⟨j, h1, h2⟩ | h)
        · exact ⟨j, by omega, h2⟩
        · exact ⟨i, by omega, hb, h⟩
      · rintro ⟨j, h1, h2, h3⟩
        by_cases e : j = i
        · subst e; exact Or.inr h3
        · exact Or.inl ⟨j, by omega, h2, h3⟩
    | false =>
      rw [if_neg (by decide), bt_zero]
      constructor
      · rintro (⟨j, h1, h2⟩ | h)
        · exact ⟨j, by omega, h2⟩
        · exact absurd h (by decide)
      · rintro ⟨j, h1, h2, h3⟩
        by_cases e : j = i
        · subst e; rw [hb] at h2; exact absurd h2 (by decide)
        · exact Or.inl ⟨j, by omega, h2, h3⟩
theorem fOn_to {al im : Nat → Int32} {n : Nat} (hn : n ≤ 24) {x : Int32} {b : Nat} : bt (fOn al im n x n) b = true ↔ ∃ a, bt x a = true ∧ zTo al im n a b := by
  rw [fOn_b hn (Nat.le_refl n)]
  constructor
  · rintro ⟨j, h1, h2, h3⟩
    exact ⟨_, h2, j, h1, rfl, h3⟩
  · rintro ⟨a, h1, j, h2, h3, h4⟩
    exact ⟨j, h2, by rw [h3]; exact h1, h4⟩
/-- ways of any length -/
def zWn (R : Nat → Nat → Prop) : Nat → Nat → Nat → Prop
  | 0, a, b => a = b
  | k + 1, a, b => ∃ c, zWn R k a c ∧ R c b
def zWay (R : Nat → Nat → Prop) (a b : Nat) : Prop := ∃ k, zWn R k a b
theorem zWay_none {R : Nat → Nat → Prop} (a : Nat) : zWay R a a := ⟨0, rfl⟩
theorem zWay_more {R : Nat → Nat → Prop} {a b c : Nat} (h : zWay R a b) (r : R b c) : zWay R a c := by
  obtain ⟨k, h⟩ := h
  exact ⟨k + 1, b, h, r⟩
theorem fIt_way {al im : Nat → Int32} {n : Nat} (hn : n ≤ 24) {x : Int32} : ∀ (i b : Nat), bt (fIt al im n x i) b = true → ∃ a, bt x a = true ∧ zWay (zTo al im n) a b
  | 0, b, h => ⟨b, h, zWay_none b⟩
  | i + 1, b, h => by
    have h' : bt (fIt al im n x i ||| fOn al im n (fIt al im n x i) n) b = true := h
    rw [b_or, Bool.or_eq_true] at h'
    rcases h' with h' | h'
    · exact fIt_way hn i b h'
    · obtain ⟨c, h1, h2⟩ := (fOn_to hn).mp h'
      obtain ⟨a, h3, h4⟩ := fIt_way hn i c h1
      exact ⟨a, h3, zWay_more h4 h2⟩
/-- the iteration stands still at 33 -/
theorem fIt_33 (al im : Nat → Int32) (n : Nat) (x : Int32) : fIt al im n x 34 = fIt al im n x 33 := by
  apply Classical.byContradiction
  intro hne
  have grow : ∀ i, i ≤ 33 → ¬ fIt al im n x (i + 1) = fIt al im n x i := fun i hi e => by
    have h1 := fIt_fix e (34 - i)
    have h2 := fIt_fix e (33 - i)
    rw [show i + (34 - i) = 34 by omega] at h1
    rw [show i + (33 - i) = 33 by omega] at h2
    exact hne (h1.trans h2.symm)
  have ct : ∀ i, i ≤ 33 → i ≤ fb_ct (bt (fIt al im n x i)) 32 := by
    intro i
    induction i with
    | zero => exact fun _ => Nat.zero_le _
    | succ i ih =>
      intro hi
      have := bLe_ct (fIt_le al im n x i) (fun e => grow i (by omega) e.symm)
      have := ih (by omega)
      omega
  have := ct 33 (Nat.le_refl _)
  have := fb_ct_le (bt (fIt al im n x 33)) 32
  omega
/-- closed: the ends to which ways lead -/
theorem fClo_way {al im : Nat → Int32} {n : Nat} (hn : n ≤ 24) {x : Int32} {b : Nat} : bt (fClo al im n x) b = true ↔ ∃ a, bt x a = true ∧ zWay (zTo al im n) a b := by
  constructor
  · exact fIt_way hn 33 b
  · rintro ⟨a, h1, h2⟩
    have hx : ∀ i, bt (fIt al im n x i) a = true := by
      intro i
      induction i with
      | zero => exact h1
      | succ i ih =>
        show bt (fIt al im n x i ||| fOn al im n (fIt al im n x i) n) a = true
        rw [b_or, ih]; rfl
    obtain ⟨k, h2⟩ := h2
    induction k generalizing b with
    | zero =>
      have e : a = b := h2
      rw [← e]; exact hx 33
    | succ k ih =>
      obtain ⟨c, w, r⟩ := h2
      have h3 := ih w
      have h4 : bt (fOn al im n (fIt al im n x 33) n) b = true := (fOn_to hn).mpr ⟨_, h3, r⟩
      show bt (fIt al im n x 33) b = true
      rw [← fIt_33]
      show bt (fIt al im n x 33 ||| fOn al im n (fIt al im n x 33) n) b = true
      rw [b_or, h4, Bool.or_true]
end K3
