section K9
theorem fE_alias {al : Nat → Int32} {n t o : Nat} (hn : n < 2 ^ 31) (hac : zAc al n) (ht : t < n) (ho : o < n) (h1 : al t = -1) (h2 : ¬ fE al n n o = t) {j : Nat} (hj : j < n) : fE (upd al t (nI o)) n n j = if fE al n n j = t then fE al n n o else fE al n n j := by
  have hac2 := zAc_alias hn hac ht ho h1 h2
  have et : upd al t (nI o) t = nI o := by simp [upd]
  have en : ∀ j, ¬ j = t → upd al t (nI o) j = al j := fun j q => by simp [upd, q]
  have keep : ∀ r j, j < n → fD al n n j = r → ¬ fE al n n j = t → fE (upd al t (nI o)) n n j = fE al n n j := by
    intro r
    induction r with
    | zero =>
      intro j hj hr hne
      rcases hac.1 j hj with h3 | ⟨k, hk, h3⟩
      · rw [fE_m1 h3] at hne ⊢
        rw [fE_m1 (by rw [en j hne]; exact h3)]
      · have := (zAc_step hn hac hj hk h3).2
        omega
    | succ r ih =>
      intro j hj hr hne
      rcases hac.1 j hj with h3 | ⟨k, hk, h3⟩
      · rw [fE_m1 h3] at hne ⊢
        rw [fE_m1 (by rw [en j hne]; exact h3)]
      · have hjt : ¬ j = t := fun e => by rw [e, h1] at h3; exact absurd h3.symm (nI_ne1 (by omega))
        obtain ⟨s1, s2⟩ := zAc_step hn hac hj hk h3
        have s3 := (zAc_step hn hac2 hj hk (by rw [en j hjt]; exact h3)).1
        rw [s3, s1]
        rw [s1] at hne
        exact ih k hk (by omega) hne
  have atT : fE (upd al t (nI o)) n n t = fE al n n o := by
    rw [(zAc_step hn hac2 ht ho et).1]
    exact keep _ o ho rfl h2
  have turn : ∀ r j, j < n → fD al n n j = r → fE al n n j = t → fE (upd al t (nI o)) n n j = fE al n n o := by
    intro r
    induction r with
    | zero =>
      intro j hj hr he
      rcases hac.1 j hj with h3 | ⟨k, hk, h3⟩
      · rw [fE_m1 h3] at he
        rw [he]; exact atT
      · have := (zAc_step hn hac hj hk h3).2
        omega
    | succ r ih =>
      intro j hj hr he
      rcases hac.1 j hj with h3 | ⟨k, hk, h3⟩
      · rw [fE_m1 h3] at he
        rw [he]; exact atT
      · have hjt : ¬ j = t := fun e => by rw [e, h1] at h3; exact absurd h3.symm (nI_ne1 (by omega))
        obtain ⟨s1, s2⟩ := zAc_step hn hac hj hk h3
        have s3 := (zAc_step hn hac2 hj hk (by rw [en j hjt]; exact h3)).1
        rw [s3]
        rw [s1] at he
        exact ih k hk (by omega) he
  by_cases e : fE al n n j = t
  · rw [if_pos e]; exact turn _ j hj rfl e
  · rw [if_neg e]; exact keep _ j hj rfl e
end K9
