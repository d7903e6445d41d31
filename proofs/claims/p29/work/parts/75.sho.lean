section K6
theorem zWay_cg {R S : Nat → Nat → Prop} {n : Nat} (h1 : ∀ a b, a < n → (R a b ↔ S a b)) (h2 : ∀ a b, a < n → S a b → b < n) {a b : Nat} (ha : a < n) : zWay R a b ↔ zWay S a b := by
  have go : ∀ k b, (zWn R k a b → zWn S k a b ∧ b < n) ∧ (zWn S k a b → zWn R k a b ∧ b < n) := by
    intro k
    induction k with
    | zero =>
      intro b
      exact ⟨fun w => ⟨w, by have e : a = b := w; omega⟩, fun w => ⟨w, by have e : a = b := w; omega⟩⟩
    | succ k ih =>
      intro b
      constructor
      · rintro ⟨c, w, r⟩
        obtain ⟨w', hc⟩ := (ih c).1 w
        have r' := (h1 c b hc).mp r
        exact ⟨⟨c, w', r'⟩, h2 c b hc r'⟩
      · rintro ⟨c, w, r⟩
        obtain ⟨w', hc⟩ := (ih c).2 w
        exact ⟨⟨c, w', (h1 c b hc).mpr r⟩, h2 c b hc r⟩
  exact ⟨fun ⟨k, w⟩ => ⟨k, ((go k b).1 w).1⟩, fun ⟨k, w⟩ => ⟨k, ((go k b).2 w).1⟩⟩
theorem zTo_lt {al im : Nat → Int32} {n a b : Nat} (hn : n ≤ 24) (h : zTo al im n a b) : a < n ∧ b < n := by
  obtain ⟨j, hj, e1, l, hl, _, e2⟩ := h
  rw [← e1, ← e2]
  exact ⟨fE_lt (by omega) n j hj, fE_lt (by omega) n l hl⟩
theorem fNx_lt {al im nx : Nat → Int32} {n a b : Nat} (hn : n ≤ 24) (ha : a < n) (h : bt (fNx al im n nx n a) b = true) : b < n := (zTo_lt hn ((fNx_to hn ha).mp h)).2
theorem fEnds_lt {al : Nat → Int32} {n b : Nat} {x : Int32} (hn : n ≤ 24) (h : bt (fEnds al n x n) b = true) : b < n := by
  obtain ⟨j, hj, _, e⟩ := (fEnds_b hn (Nat.le_refl n)).mp h
  rw [← e]
  exact fE_lt (by omega) n j hj
theorem way_nx {al im nx : Nat → Int32} {n a b : Nat} (hn : n ≤ 24) (ha : a < n) : zWay (fun p q => bt (fNx al im n nx n p) q = true) a b ↔ zWay (zTo al im n) a b :=
  zWay_cg (fun p q hp => fNx_to hn hp) (fun p q hp h => (zTo_lt hn h).2) ha
/-- what the class shows by the rules is what the model closes -/
theorem fSp_sho {al im nx : Nat → Int32} {n : Nat} (hn : n ≤ 24) {x : Int32} : fSp (fNx al im n nx n) n n (fEnds al n x n) = fSho al im n x := by
  apply b_ext
  intro b _
  apply Bool.eq_iff_iff.mpr
  unfold fSho
  rw [fSp_way hn (fun a b ha h => fNx_lt hn ha h) (fun b h => fEnds_lt hn h), fClo_way hn]
  constructor
  · rintro ⟨a, h1, h2⟩
    exact ⟨a, h1, (way_nx hn (fEnds_lt hn h1)).mp h2⟩
  · rintro ⟨a, h1, h2⟩
    exact ⟨a, h1, (way_nx hn (fEnds_lt hn h1)).mpr h2⟩
/-- what the class keeps as reached, by ways -/
theorem fRe_to {al im nx re : Nat → Int32} {n a b : Nat} (hn : n ≤ 24) (ha : a < n) : bt (fRe n (fNx al im n nx n) re n a) b = true ↔ zWay (zTo al im n) a b := by
  rw [fRe_way hn (fun a b ha h => fNx_lt hn ha h) ha, way_nx hn ha]
/-- the reached of each of a set's ends, together: the shown -/
theorem fRf_b {al re : Nat → Int32} {n : Nat} {x : Int32} {b : Nat} : ∀ i, (bt (fRf al re n x i) b = true ↔ ∃ j, j < i ∧ bt x j = true ∧ bt (re (fE al n n j)) b = true)
  | 0 => by
    constructor
    · intro h; rw [show fRf al re n x 0 = 0 from rfl, bt_zero] at h; exact absurd h (by decide)
    · rintro ⟨j, hj, -⟩; omega
  | i + 1 => by
    have ih := fRf_b (al := al) (re := re) (n := n) (x := x) (b := b) i
    unfold fRf
    by_cases e : bt x i = true
    · rw [if_pos e, b_or, Bool.or_eq_true, ih]
      constructor
      · rintro (⟨j, h1, h2⟩ | h)
        · exact ⟨j, by omega, h2⟩
        · exact ⟨i, by omega, e, h⟩
      · rintro ⟨j, h1, h2, h3⟩
        by_cases e2 : j = i
        · subst e2; exact Or.inr h3
        · exact Or.inl ⟨j, by omega, h2, h3⟩
    · rw [if_neg e, ih]
      constructor
      · rintro ⟨j, h1, h2⟩
        exact ⟨j, by omega, h2⟩
      · rintro ⟨j, h1, h2, h3⟩
        by_cases e2 : j = i
        · subst e2; exact absurd h2 e
        · exact ⟨j, by omega, h2, h3⟩
theorem fRf_sho {al im nx re : Nat → Int32} {n : Nat} (hn : n ≤ 24) {x : Int32} : fRf al (fRe n (fNx al im n nx n) re n) n x n = fSho al im n x := by
  apply b_ext
  intro b _
  apply Bool.eq_iff_iff.mpr
  unfold fSho
  rw [fRf_b n, fClo_way hn]
  constructor
  · rintro ⟨j, h1, h2, h3⟩
    exact ⟨fE al n n j, (fEnds_b hn (Nat.le_refl n)).mpr ⟨j, h1, h2, rfl⟩, (fRe_to hn (fE_lt (by omega) n j h1)).mp h3⟩
  · rintro ⟨a, h1, h2⟩
    obtain ⟨j, h3, h4, e⟩ := (fEnds_b hn (Nat.le_refl n)).mp h1
    refine ⟨j, h3, h4, ?_⟩
    rw [fRe_to hn (fE_lt (by omega) n j h3), e]
    exact h2
end K6
