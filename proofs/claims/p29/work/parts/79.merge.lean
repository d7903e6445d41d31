section K10
theorem zWay_map {R S : Nat → Nat → Prop} {p : Nat → Nat} (h : ∀ a b, R a b → zWay S (p a) (p b)) {a b : Nat} (w : zWay R a b) : zWay S (p a) (p b) := by
  obtain ⟨k, w⟩ := w
  induction k generalizing b with
  | zero => have e : a = b := w; rw [e]; exact zWay_none _
  | succ k ih =>
    obtain ⟨c, w, r⟩ := w
    exact zWay_app (ih w) (h c b r)
def zMg (t e x : Nat) : Nat := if x = t then e else x
/-- t and e made one -/
theorem zCy_merge {R : Nat → Nat → Prop} {t e : Nat} (hne : ¬ t = e) : zCy (fun a b => ∃ a0 b0, R a0 b0 ∧ zMg t e a0 = a ∧ zMg t e b0 = b) ↔ zCy R ∨ zWay R t e ∨ zWay R e t := by
  have up : ∀ a b, R a b → (fun a b => ∃ a0 b0, R a0 b0 ∧ zMg t e a0 = a ∧ zMg t e b0 = b) (zMg t e a) (zMg t e b) := fun a b r => ⟨a, b, r, rfl, rfl⟩
  have upw : ∀ {a b}, zWay R a b → zWay (fun a b => ∃ a0 b0, R a0 b0 ∧ zMg t e a0 = a ∧ zMg t e b0 = b) (zMg t e a) (zMg t e b) := fun w => zWay_map (fun a b r => zWay_more (zWay_none _) (up a b r)) w
  have mt : zMg t e t = e := if_pos rfl
  have me : zMg t e e = e := if_neg (fun q => hne q.symm)
  constructor
  · rintro ⟨a, b, ⟨a0, b0, r, ea, eb⟩, w⟩
    have jump : ∀ x, zWay (fun x y => (R x y ∨ (x = t ∧ y = e)) ∨ (x = e ∧ y = t)) x (zMg t e x) ∧ zWay (fun x y => (R x y ∨ (x = t ∧ y = e)) ∨ (x = e ∧ y = t)) (zMg t e x) x := fun x => by
      by_cases q : x = t
      · rw [q, mt]
        exact ⟨zWay_more (zWay_none _) (Or.inl (Or.inr ⟨rfl, rfl⟩)), zWay_more (zWay_none _) (Or.inr ⟨rfl, rfl⟩)⟩
      · rw [show zMg t e x = x from if_neg q]
        exact ⟨zWay_none _, zWay_none _⟩
    have w1 : zWay (fun x y => (R x y ∨ (x = t ∧ y = e)) ∨ (x = e ∧ y = t)) b a := zWay_map (p := id) (fun x y h => by
      obtain ⟨x0, y0, r0, ex, ey⟩ := h
      rw [id, id, ← ex, ← ey]
      exact zWay_app (zWay_more (jump x0).2 (Or.inl (Or.inl r0))) (jump y0).1) w
    have w2 : zWay (fun x y => (R x y ∨ (x = t ∧ y = e)) ∨ (x = e ∧ y = t)) b0 a0 := by
      rw [← ea, ← eb] at w1
      exact zWay_app (zWay_app (jump b0).1 w1) (jump a0).2
    rcases zWay_add w2 with h | ⟨h1, h2⟩
    · rcases zWay_add h with h | ⟨h1, h2⟩
      · exact Or.inl ⟨a0, b0, r, h⟩
      · exact Or.inr (Or.inr (zWay_app (zWay_more h2 r) h1))
    · rcases zWay_add h1 with h1 | ⟨h1, -⟩
      · rcases zWay_add h2 with h2 | ⟨-, h2⟩
        · exact Or.inr (Or.inl (zWay_app (zWay_more h2 r) h1))
        · exact Or.inl ⟨a0, b0, r, zWay_app h1 h2⟩
      · rcases zWay_add h2 with h2 | ⟨-, h2⟩
        · exact Or.inl ⟨a0, b0, r, zWay_app h1 h2⟩
        · exact Or.inr (Or.inr (zWay_app (zWay_more h2 r) h1))
  · rintro (⟨a, b, r, w⟩ | w | w)
    · exact ⟨_, _, up a b r, upw w⟩
    · obtain ⟨k, w⟩ := w
      cases k with
      | zero => exact absurd w hne
      | succ k =>
        obtain ⟨c, w, r⟩ := w
        have h1 := up c e r
        have h2 := upw (a := t) (b := c) ⟨k, w⟩
        rw [me] at h1
        rw [mt] at h2
        exact ⟨_, _, h1, h2⟩
    · obtain ⟨k, w⟩ := w
      cases k with
      | zero => exact absurd (show e = t from w).symm hne
      | succ k =>
        obtain ⟨c, w, r⟩ := w
        have h1 := up c t r
        have h2 := upw (a := e) (b := c) ⟨k, w⟩
        rw [mt] at h1
        rw [me] at h2
        exact ⟨_, _, h1, h2⟩
end K10
