section S2
/-! the rows of bits -/
theorem fShI_eq {all : Int32} {i : Nat} {sh : Nat → Int32} : ∀ (k j : Nat), fShI all i sh k j = if j < k ∧ bt all j = true then sh j ||| sh1 i else sh j
  | 0, j => by rw [if_neg (fun h => absurd h.1 (by omega))]; rfl
  | k + 1, j => by
    unfold fShI
    by_cases hb : bt all k = true
    · rw [if_pos hb]
      by_cases q : j = k
      · subst q
        rw [show upd (fShI all i sh j) j _ j = _ from if_pos rfl, fShI_eq j j, if_neg (fun h => absurd h.1 (by omega)), if_pos ⟨by omega, hb⟩]
      · rw [show upd (fShI all i sh k) k _ j = fShI all i sh k j from if_neg q, fShI_eq k j]
        by_cases h2 : j < k ∧ bt all j = true
        · rw [if_pos h2, if_pos ⟨by omega, h2.2⟩]
        · rw [if_neg h2, if_neg (fun h3 => h2 ⟨by omega, h3.2⟩)]
    · rw [if_neg hb, fShI_eq k j]
      by_cases h2 : j < k ∧ bt all j = true
      · rw [if_pos h2, if_pos ⟨by omega, h2.2⟩]
      · rw [if_neg h2, if_neg (fun h3 => h2 ⟨by
          rcases Nat.lt_or_ge j k with q | q
          · exact q
          · rw [show j = k by omega] at h3; exact absurd h3.2 hb, h3.2⟩)]
theorem fSh_out {al re : Nat → Int32} {n : Nat} {se sh : Nat → Int32} {j : Nat} (hj : n ≤ j) : ∀ i, fSh al re n se sh i j = sh j
  | 0 => by unfold fSh; rw [if_neg (by omega)]
  | i + 1 => by
    unfold fSh
    rw [fShI_eq, if_neg (fun h => absurd h.1 (by omega))]
    exact fSh_out hj i
theorem fSh_b {al re : Nat → Int32} {n : Nat} {se sh : Nat → Int32} {j : Nat} (hj : j < n) {b : Nat} (hb : b < 32) : ∀ i, i ≤ 32 → bt (fSh al re n se sh i j) b = (decide (b < i) && bt (fRf al re n (se b) n) j)
  | 0, _ => by
    unfold fSh
    rw [if_pos hj, bt_zero]; simp
  | i + 1, hi => by
    have ih := fSh_b (al := al) (re := re) (se := se) (sh := sh) hj hb i (by omega)
    unfold fSh
    rw [fShI_eq]
    by_cases h2 : bt (fRf al re n (se i) n) j = true
    · rw [if_pos ⟨hj, h2⟩, b_or, ih, bt_sh1 (by omega) hb]
      by_cases q : b = i
      · subst q; simp [h2]
      · rw [decide_eq_false q, Bool.or_false]
        by_cases q2 : b < i
        · simp [q2, show b < i + 1 by omega]
        · simp [q2, show ¬ b < i + 1 by omega]
    · rw [if_neg (fun h3 => h2 h3.2), ih]
      by_cases q : b = i
      · subst q
        have : bt (fRf al re n (se b) n) j = false := by simpa using h2
        simp [this]
      · by_cases q2 : b < i
        · simp [q2, show b < i + 1 by omega]
        · simp [q2, show ¬ b < i + 1 by omega]
/-- the rows: of each tag, who shows it -/
def zWo (n m : Nat) (al im se ω : Nat → Int32) : Prop := ∀ t i, t < 24 → i < 32 → bt (ω t) i = (decide (t < n) && (decide (i < m) && bt (fSho al im n (se i)) t))
theorem zRl_rf {ρ : zRS} {al im : Nat → Int32} {n : Nat} (hn : n ≤ 24) (h : zRl n ρ al im) (x : Int32) : fRf ρ.1 ρ.2.2.2.1 n x n = fSho al im n x := by
  obtain ⟨e1, e2, ⟨nx, re, e3, e4⟩, -⟩ := h
  subst e2
  rw [e4, fRf_sho hn]
  exact fSho_congr (by omega) e1 eqn_rf x
theorem zWo_ref {ρ : zRS} {al im se ω : Nat → Int32} {n m : Nat} (hn : n ≤ 24) (hm : m ≤ 20) (h : zRl n ρ al im) (hz : ∀ t, n ≤ t → t < 24 → ω t = 0) : zWo n m al im se (fSh ρ.1 ρ.2.2.2.1 n se ω m) := by
  intro t i ht hi
  by_cases q : t < n
  · rw [fSh_b q hi m (by omega), zRl_rf hn h, decide_eq_true q, Bool.true_and]
  · rw [fSh_out (by omega), hz t (by omega) ht, bt_zero, decide_eq_false q, Bool.false_and]
theorem zWo_0 {al im se ω : Nat → Int32} {n m : Nat} (h : zWo n m al im se ω) : ∀ t, n ≤ t → t < 24 → ω t = 0 := by
  intro t h1 h2
  apply b_ext
  intro i hi
  rw [h t i h2 hi, decide_eq_false (by omega), Bool.false_and, bt_zero]
theorem fSho_0 {al im : Nat → Int32} {n : Nat} (hn : n ≤ 24) : fSho al im n 0 = 0 := by
  apply b_ext
  intro i hi
  cases h : bt (fSho al im n 0) i with
  | false => rw [bt_zero]
  | true =>
    obtain ⟨a, ⟨j, hj, h1, -⟩, -⟩ := (fSho_b hn).mp h
    rw [bt_zero] at h1
    exact absurd h1 (by decide)
/-- a thing more, without tags -/
theorem zWo_thing {al im se ω : Nat → Int32} {n m : Nat} (hn : n ≤ 24) (h : zWo n m al im se ω) (h0 : se m = 0) : zWo n (m + 1) al im se ω := by
  intro t i ht hi
  rw [h t i ht hi]
  by_cases q : i = m
  · subst q
    rw [h0, fSho_0 hn, bt_zero]; simp
  · by_cases q2 : i < m
    · simp [q2, show i < m + 1 by omega]
    · simp [q2, show ¬ i < m + 1 by omega]
/-- a tag more -/
theorem zWo_grow {al im se ω : Nat → Int32} {n m : Nat} (hn : n < 24) (hac : zAc al n) (hb : ∀ j b, bt (im j) b = true → j < n ∧ b < n) (hs : ∀ i b, bt (se i) b = true → b < n) (h : zWo n m al im se ω) : zWo (n + 1) m al im se ω := by
  intro t i ht hi
  rw [h t i ht hi, fSho_grow hn hac hb (fun j hj => hs i j hj)]
  by_cases q : t = n
  · subst q
    cases hc : bt (fSho al im t (se i)) t with
    | false => simp
    | true => exact absurd (fSho_lt (by omega) hc) (by omega)
  · by_cases q2 : t < n
    · simp [q2, show t < n + 1 by omega]
    · simp [q2, show ¬ t < n + 1 by omega]
/-- what the rows answer -/
theorem zWo_col {al im se ω : Nat → Int32} {n m i : Nat} (hn : n ≤ 24) (h : zWo n m al im se ω) (hi : i < m) (hm : m ≤ 20) : fCol ω i n = fSho al im n (se i) := by
  have key : ∀ k, k ≤ n → ∀ b, b < 32 → bt (fCol ω i k) b = (decide (b < k) && bt (fSho al im n (se i)) b) := by
    intro k
    induction k with
    | zero => intro _ b _; unfold fCol; rw [bt_zero]; simp
    | succ k ih =>
      intro hk b hb
      have ih := ih (by omega)
      unfold fCol
      rw [h k i (by omega) (by omega), decide_eq_true (show k < n by omega), decide_eq_true hi, Bool.true_and, Bool.true_and]
      by_cases h2 : bt (fSho al im n (se i)) k = true
      · rw [if_pos h2, b_or, ih b hb, bt_sh1 (by omega) hb]
        by_cases q : b = k
        · subst q; simp [h2]
        · rw [decide_eq_false q, Bool.or_false]
          by_cases q2 : b < k
          · simp [q2, show b < k + 1 by omega]
          · simp [q2, show ¬ b < k + 1 by omega]
      · rw [if_neg h2, ih b hb]
        by_cases q : b = k
        · subst q
          have : bt (fSho al im n (se i)) b = false := by simpa using h2
          simp [this]
        · by_cases q2 : b < k
          · simp [q2, show b < k + 1 by omega]
          · simp [q2, show ¬ b < k + 1 by omega]
  apply b_ext
  intro b hb
  rw [key n (Nat.le_refl _) b hb]
  cases hc : bt (fSho al im n (se i)) b with
  | false => simp
  | true => simp [fSho_lt hn hc]
theorem ct_cut {p q : Nat → Bool} {m : Nat} (hm : m ≤ 32) (h : ∀ i, i < 32 → q i = (decide (i < m) && p i)) : fb_ct q 32 = fb_ct p m := by
  have h1 : fb_ct q m = fb_ct p m := fb_ct_cong (fun k hk => by rw [h k (by omega), decide_eq_true hk, Bool.true_and])
  have h2 : fb_ct (fun k => q (m + k)) (32 - m) = 0 := fb_ct_zero.mpr (fun k hk => by
    show q (m + k) = false
    rw [h (m + k) (by omega), decide_eq_false (by omega), Bool.false_and])
  rw [show (32 : Nat) = m + (32 - m) by omega, fb_ct_split, h1, h2, Nat.add_zero]
end S2
