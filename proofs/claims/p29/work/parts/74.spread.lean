section K5
theorem fSpI_b {nx : Nat → Int32} {x : Int32} {b : Nat} : ∀ i, (bt (fSpI nx x i) b = true ↔ bt x b = true ∨ ∃ j, j < i ∧ bt x j = true ∧ bt (nx j) b = true)
  | 0 => ⟨Or.inl, fun h => h.elim id (fun ⟨j, hj, _⟩ => absurd hj (by omega))⟩
  | i + 1 => by
    have ih := fSpI_b (nx := nx) (x := x) (b := b) i
    unfold fSpI
    by_cases e : bt x i = true
    · rw [if_pos e, b_or, Bool.or_eq_true, ih]
      constructor
      · rintro ((h | ⟨j, h1, h2⟩) | h)
        · exact Or.inl h
        · exact Or.inr ⟨j, by omega, h2⟩
        · exact Or.inr ⟨i, by omega, e, h⟩
      · rintro (h | ⟨j, h1, h2, h3⟩)
        · exact Or.inl (Or.inl h)
        · by_cases e2 : j = i
          · subst e2; exact Or.inr h3
          · exact Or.inl (Or.inr ⟨j, by omega, h2, h3⟩)
    · rw [if_neg e, ih]
      constructor
      · rintro (h | ⟨j, h1, h2⟩)
        · exact Or.inl h
        · exact Or.inr ⟨j, by omega, h2⟩
      · rintro (h | ⟨j, h1, h2, h3⟩)
        · exact Or.inl h
        · by_cases e2 : j = i
          · subst e2; exact absurd h2 e
          · exact Or.inr ⟨j, by omega, h2, h3⟩
theorem fSp_fix {n : Nat} (hn : n ≤ 24) {nx : Nat → Int32} (hx : ∀ a b, a < n → bt (nx a) b = true → b < n) : ∀ (k : Nat) (x : Int32), (∀ b, bt x b = true → b < n) → n ≤ k + fb_ct (bt x) 32 →
    fSpI nx (fSp nx n k x) n = fSp nx n k x ∧ bLe x (fSp nx n k x) ∧ ∀ b, bt (fSp nx n k x) b = true → ∃ a, bt x a = true ∧ zWay (fun p q => bt (nx p) q = true) a b
  | 0, x, hb, hc => by
    have hs := fb_ct_split (bt x) n (32 - n)
    rw [show n + (32 - n) = 32 by omega] at hs
    have hz : fb_ct (fun k => bt x (n + k)) (32 - n) = 0 := fb_ct_zero.mpr (fun k _ => by
      cases h : bt x (n + k) with
      | false => rfl
      | true => have := hb _ h; omega)
    have h1 := fb_ct_not (bt x) n
    have h2 : fb_ct (fun k => !bt x k) n = 0 := by omega
    have full : ∀ j, j < n → bt x j = true := fun j hj => by simpa using fb_ct_zero.mp h2 j hj
    refine ⟨?_, fun i _ h => h, fun b h => ⟨b, h, zWay_none b⟩⟩
    show fSpI nx x n = x
    apply b_ext
    intro i hi
    apply Bool.eq_iff_iff.mpr
    rw [fSpI_b]
    exact ⟨fun h => h.elim id (fun ⟨j, hj, _, h3⟩ => full i (hx j i hj h3)), Or.inl⟩
  | k + 1, x, hb, hc => by
    unfold fSp
    by_cases e : fSpI nx x n = x
    · rw [if_pos e]
      exact ⟨e, fun i _ h => h, fun b h => ⟨b, h, zWay_none b⟩⟩
    · rw [if_neg e]
      have hle : bLe x (fSpI nx x n) := fun i _ h => (fSpI_b n).mpr (Or.inl h)
      have hct := bLe_ct hle (fun q => e q.symm)
      obtain ⟨h1, h2, h3⟩ := fSp_fix hn hx k (fSpI nx x n) (fun b h => by
        rcases (fSpI_b n).mp h with h | ⟨j, hj, _, h⟩
        · exact hb b h
        · exact hx j b hj h) (by omega)
      refine ⟨h1, fun i hi h => h2 i hi (hle i hi h), fun b h => ?_⟩
      obtain ⟨a, h4, h5⟩ := h3 b h
      rcases (fSpI_b n).mp h4 with h6 | ⟨j, _, h6, h7⟩
      · exact ⟨a, h6, h5⟩
      · exact ⟨j, h6, zWay_app (zWay_more (zWay_none j) h7) h5⟩
/-- what the class spreads are the ends of ways -/
theorem fSp_way {n : Nat} (hn : n ≤ 24) {nx : Nat → Int32} (hx : ∀ a b, a < n → bt (nx a) b = true → b < n) {x : Int32} (hb : ∀ b, bt x b = true → b < n) {b : Nat} : bt (fSp nx n n x) b = true ↔ ∃ a, bt x a = true ∧ zWay (fun p q => bt (nx p) q = true) a b := by
  obtain ⟨h1, h2, h3⟩ := fSp_fix hn hx n x hb (by omega)
  refine ⟨h3 b, ?_⟩
  rintro ⟨a, ha, k, w⟩
  have go : ∀ k b, zWn (fun p q => bt (nx p) q = true) k a b → b < n ∧ bt (fSp nx n n x) b = true := by
    intro k
    induction k with
    | zero => intro b w; have e : a = b := w; rw [← e]; exact ⟨hb a ha, h2 a (by have := hb a ha; omega) ha⟩
    | succ k ih =>
      intro b w
      obtain ⟨c, w, r⟩ := w
      obtain ⟨hc, hr⟩ := ih c w
      refine ⟨hx c b hc r, ?_⟩
      rw [← h1]
      exact (fSpI_b n).mpr (Or.inr ⟨c, hc, hr, r⟩)
  exact (go k b w).2
end K5
