section S1
/-! the rules: what both sides have in common, and what keeps it -/
theorem fE_rank {al : Nat → Int32} {n : Nat} (hn : n < 2 ^ 31) (hA : ∀ j, j < n → al j = -1 ∨ ∃ k, k < n ∧ al j = nI k) {r : Nat → Nat} (hr : ∀ j k, j < n → k < n → al j = nI k → r k < r j) : ∀ (k t : Nat), t < n → r (fE al n k t) ≤ r t
  | 0, t, _ => Nat.le_refl _
  | k + 1, t, ht => by
    rcases hA t ht with h | ⟨j, hj, h⟩
    · rw [fE_m1 h]; exact Nat.le_refl _
    · rw [fE_go hn hj h]
      have h1 := fE_rank hn hA hr k j hj
      have h2 := hr t j ht hj h
      omega
theorem noc_lift_ali {al im : Nat → Int32} {n t o : Nat} (hn : n ≤ 24) (hac : zAc al n) (ht : t < n) (ho : o < n) (hal : al t = nI o) (h : fCir al im n = false) : fCir (upd al t (-1)) im n = false := by
  have hac0 : zAc (upd al t (-1)) n := zAc_lift (by omega) hac
  have hne : ¬ fE (upd al t (-1)) n n o = t := by
    intro e
    obtain ⟨-, r, hr⟩ := zAc_r (by omega) hac
    have h1 := fE_rank (al := upd al t (-1)) (by omega) hac0.1 (r := r) (fun j k hj hk e => by
      by_cases q : j = t
      · subst q
        have e' : (-1 : Int32) = nI k := by simpa [upd] using e
        exact absurd e'.symm (nI_ne1 (by omega))
      · exact hr j k hj hk (by simpa [upd, q] using e)) n o ho
    rw [e] at h1
    have h2 := hr t o ht ho hal
    omega
  cases hc : fCir (upd al t (-1)) im n with
  | false => rfl
  | true =>
    exfalso
    have h0 := (fCir_cy hn hac0).mp hc
    have ht0 : upd al t (-1) t = -1 := by simp [upd]
    have h3 : zCy (zTo (upd (upd al t (-1)) t (nI o)) im n) := by
      rw [zCy_cg (zTo_alias hn hac0 ht ho ht0 hne), zCy_merge (fun q => hne q.symm)]
      exact Or.inl h0
    rw [upd_back hal] at h3
    rw [(fCir_cy hn hac).mpr h3] at h
    exact absurd h (by decide)
theorem noc_keep {al im : Nat → Int32} {n t o : Nat} {k : Int32} (hn : n ≤ 24) (hac : zAc al n) (ht : t < n) (ho : o < n) (hk : okI k 4) (h : fCir al im n = false) (hm : fMay al im n k t o = true) : fCir (fDoA al k t o) (fDoI im k t o) n = false := by
  rcases ok4 hk with rfl | rfl | rfl | rfl
  · unfold fMay at hm
    rw [if_neg (by decide), if_neg (by decide), if_pos (show (0 : Int32) = 0 from rfl)] at hm
    split at hm
    · cases hm
    · simpa using hm
  · unfold fMay at hm
    rw [if_neg (by decide), if_neg (by decide), if_neg (show ¬ (1 : Int32) = 0 by decide)] at hm
    split at hm
    · cases hm
    · simpa using hm
  · have e : al t = nI o := by simpa [fMay] using hm
    rw [show fDoA al 2 t o = upd al t (-1) by simp [fDoA], show fDoI im 2 t o = im by simp [fDoI, upd_id]]
    exact noc_lift_ali hn hac ht ho e h
  · rw [show fDoA al 3 t o = al by simp [fDoA, upd_id], show fDoI im 3 t o = upd im t (im t &&& (sh1 o ^^^ (-1))) by simp [fDoI]]
    exact noc_lift_imp hn hac h
theorem allow_all {ρ : zRS} {n t o : Nat} {k : Int32} {nx re : Nat → Int32} (hn : n ≤ 24) (hac : zAc ρ.1 n) (ht : t < n) (ho : o < n) (hk : okI k 4) (hno : fCir ρ.1 ρ.2.1 n = false) (hre : ρ.2.2.2.1 = fRe n (fNx ρ.1 ρ.2.1 n nx n) re n) : fAllow ρ n k t o = fMay ρ.1 ρ.2.1 n k t o := by
  rcases ok4 hk with rfl | rfl | rfl | rfl
  · exact allow_ali hn hac ht ho hno hre
  · exact allow_imp hn hac ht ho hno hre
  · exact allow_lift (Or.inl rfl)
  · exact allow_lift (Or.inr rfl)
theorem fCarry_do {ρ : zRS} {k : Int32} {t o : Nat} (hk : okI k 4) : (fCarry ρ k t o).1 = fDoA ρ.1 k t o ∧ (fCarry ρ k t o).2.1 = fDoI ρ.2.1 k t o := by
  rcases ok4 hk with rfl | rfl | rfl | rfl
  · simp [fCarry, fDoA, fDoI, upd_id]
  · simp [fCarry, fDoA, fDoI, upd_id]
  · simp [fCarry, fDoA, fDoI, upd_id]
  · simp [fCarry, fDoA, fDoI, upd_id]
variable {al al' im im' : Nat → Int32} {n : Nat}
theorem fOn_congr (hn : n < 2 ^ 31) (h : eqn n al al') (hm : eqn n im im') (x : Int32) : ∀ i, i ≤ n → fOn al im n x i = fOn al' im' n x i
  | 0, _ => rfl
  | i + 1, hi => by
    unfold fOn
    rw [fOn_congr hn h hm x i (by omega), fE_congr hn h n i (by omega), hm i (by omega), fEnds_congr hn h _ n (Nat.le_refl _)]
theorem fIt_congr (hn : n < 2 ^ 31) (h : eqn n al al') (hm : eqn n im im') (x : Int32) : ∀ i, fIt al im n x i = fIt al' im' n x i
  | 0 => rfl
  | i + 1 => by
    unfold fIt
    rw [fIt_congr hn h hm x i, fOn_congr hn h hm _ n (Nat.le_refl _)]
theorem fClo_congr (hn : n < 2 ^ 31) (h : eqn n al al') (hm : eqn n im im') (x : Int32) : fClo al im n x = fClo al' im' n x := fIt_congr hn h hm x 33
theorem fSho_congr (hn : n < 2 ^ 31) (h : eqn n al al') (hm : eqn n im im') (x : Int32) : fSho al im n x = fSho al' im' n x := by
  unfold fSho
  rw [fEnds_congr hn h x n (Nat.le_refl _), fClo_congr hn h hm]
theorem fFind_congr {q q' : Nat → Bool} (h : ∀ i, i < n → q i = q' i) : ∀ f k, fFind q n f k = fFind q' n f k
  | 0, _ => rfl
  | f + 1, k => by
    rw [fFind_s, fFind_s]
    by_cases hk : k < n
    · rw [if_pos hk, if_pos hk, h k hk, fFind_congr h f (k + 1)]
    · rw [if_neg hk, if_neg hk]
theorem fCir_congr (hn : n < 2 ^ 31) (h : eqn n al al') (hm : eqn n im im') : fCir al im n = fCir al' im' n := by
  unfold fCir
  rw [fFind_congr (q' := fun t => decide (al' t = -1) && bt (fClo al' im' n (fOn al' im' n (sh1 t) n)) t) (fun i hi => ?_)]
  show (decide (al i = -1) && bt (fClo al im n (fOn al im n (sh1 i) n)) i) = _
  rw [h i hi, fOn_congr hn h hm _ n (Nat.le_refl _), fClo_congr hn h hm]
theorem fDoA_eqn (h : eqn n al al') (k : Int32) (t o : Nat) : eqn n (fDoA al k t o) (fDoA al' k t o) := by
  unfold fDoA
  exact eqn_upd h (fun ht => by rw [h t ht])
theorem fDoI_eqn (h : eqn n im im') (k : Int32) (t o : Nat) : eqn n (fDoI im k t o) (fDoI im' k t o) := by
  unfold fDoI
  exact eqn_upd h (fun ht => by rw [h t ht])
theorem fMay_congr (hn : n < 2 ^ 31) (h : eqn n al al') (hm : eqn n im im') (k : Int32) {t o : Nat} (ht : t < n) (ho : o < n) : fMay al im n k t o = fMay al' im' n k t o := by
  unfold fMay
  rw [h t ht, hm t ht, fE_congr hn h n o ho, fCir_congr hn (fDoA_eqn h k t o) (fDoI_eqn hm k t o)]
theorem zAc_congr (hn : n < 2 ^ 31) (h : eqn n al al') (hac : zAc al n) : zAc al' n := by
  refine ⟨fun j hj => by rw [← h j hj]; exact hac.1 j hj, fun j hj => ?_⟩
  rw [← fE_congr hn h n j hj, ← h _ (fE_lt hn n j hj)]
  exact hac.2 j hj
theorem eqn_sy {f g : Nat → Int32} (h : eqn n f g) : eqn n g f := fun j hj => (h j hj).symm
theorem eqn_rf {f : Nat → Int32} : eqn n f f := fun _ _ => rfl
/-- the rules of the class, and those of the model -/
def zRl (n : Nat) (ρ : zRS) (al im : Nat → Int32) : Prop := eqn n ρ.1 al ∧ ρ.2.1 = im ∧ (∃ nx re, ρ.2.2.1 = fNx ρ.1 ρ.2.1 n nx n ∧ ρ.2.2.2.1 = fRe n (fNx ρ.1 ρ.2.1 n nx n) re n) ∧ fCir al im n = false ∧ ∀ j b, bt (im j) b = true → j < n ∧ b < n
theorem zRl_work {ρ : zRS} (h1 : eqn n ρ.1 al) (h2 : ρ.2.1 = im) (h4 : fCir al im n = false) (h5 : ∀ j b, bt (im j) b = true → j < n ∧ b < n) : zRl n (fWork ρ n) al im := ⟨h1, h2, ⟨_, _, rfl, rfl⟩, h4, h5⟩
theorem zRl_allow {ρ : zRS} {k : Int32} {t o : Nat} (hn : n ≤ 24) (hac : zAc al n) (h : zRl n ρ al im) (hk : okI k 4) (ht : t < n) (ho : o < n) : fAllow ρ n k t o = fMay al im n k t o := by
  obtain ⟨h1, h2, ⟨nx, re, h3, h4⟩, h5, h6⟩ := h
  subst h2
  have hac' : zAc ρ.1 n := zAc_congr (by omega) (eqn_sy h1) hac
  rw [allow_all hn hac' ht ho hk (by rw [fCir_congr (by omega) h1 eqn_rf]; exact h5) h4]
  exact fMay_congr (by omega) h1 eqn_rf k ht ho
theorem zRl_carry {ρ : zRS} {k : Int32} {t o : Nat} (hn : n ≤ 24) (hac : zAc al n) (h : zRl n ρ al im) (hk : okI k 4) (ht : t < n) (ho : o < n) (hm : fMay al im n k t o = true) : zRl n (fWork (fCarry ρ k t o) n) (fDoA al k t o) (fDoI im k t o) := by
  obtain ⟨h1, h2, h3, h5, h6⟩ := h
  subst h2
  obtain ⟨e1, e2⟩ := fCarry_do (ρ := ρ) (t := t) (o := o) hk
  refine zRl_work (by rw [e1]; exact fDoA_eqn h1 k t o) e2 (noc_keep hn hac ht ho hk h5 hm) ?_
  intro j b hb
  unfold fDoI at hb
  by_cases q : j = t
  · subst q
    refine ⟨ht, ?_⟩
    rw [show upd ρ.2.1 j _ j = _ from if_pos rfl] at hb
    split at hb
    · rw [b_or, Bool.or_eq_true, bt_shn (by omega)] at hb
      rcases hb with hb | hb
      · exact (h6 j b hb).2
      · have : b = o := of_decide_eq_true hb
        omega
    · split at hb
      · rw [b_and, Bool.and_eq_true] at hb
        exact (h6 j b hb.1).2
      · exact (h6 j b hb).2
  · rw [show upd ρ.2.1 t _ j = ρ.2.1 j from if_neg q] at hb
    exact h6 j b hb
/-! one tag more -/
theorem fE_grow (hn : n + 1 < 2 ^ 31) (hA : ∀ j, j < n → al j = -1 ∨ ∃ k, k < n ∧ al j = nI k) : ∀ (k t : Nat), t < n → fE al (n + 1) k t = fE al n k t
  | 0, t, _ => rfl
  | k + 1, t, ht => by
    rcases hA t ht with h | ⟨j, hj, h⟩
    · rw [fE_m1 h, fE_m1 h]
    · rw [fE_go (by omega) (by omega) h, fE_go (by omega) hj h]
      exact fE_grow hn hA k j hj
theorem fE_grow1 (hn : n + 1 < 2 ^ 31) (hac : zAc al n) {t : Nat} (ht : t < n) : fE al (n + 1) (n + 1) t = fE al n n t := by
  rw [fE_grow hn hac.1 (n + 1) t ht, fE_more (by omega) hac.1 n t ht (hac.2 t ht)]
theorem zTo_grow (hn : n < 24) (hac : zAc al n) (hb : ∀ j b, bt (im j) b = true → j < n ∧ b < n) (a b : Nat) : zTo al im (n + 1) a b ↔ zTo al im n a b := by
  constructor
  · rintro ⟨j, hj, e, l, hl, h, e2⟩
    obtain ⟨h1, h2⟩ := hb j l h
    rw [fE_grow1 (by omega) hac h1] at e
    rw [fE_grow1 (by omega) hac h2] at e2
    exact ⟨j, h1, e, l, h2, h, e2⟩
  · rintro ⟨j, hj, e, l, hl, h, e2⟩
    rw [← fE_grow1 (by omega) hac hj] at e
    rw [← fE_grow1 (by omega) hac hl] at e2
    exact ⟨j, by omega, e, l, by omega, h, e2⟩
theorem fCir_grow (hn : n < 24) (hac : zAc al n) (hac1 : zAc al (n + 1)) (hb : ∀ j b, bt (im j) b = true → j < n ∧ b < n) (h : fCir al im n = false) : fCir al im (n + 1) = false := by
  cases hc : fCir al im (n + 1) with
  | false => rfl
  | true =>
    have h0 := (fCir_cy (by omega) hac1).mp hc
    rw [zCy_cg (zTo_grow hn hac hb)] at h0
    rw [(fCir_cy (by omega) hac).mpr h0] at h
    exact absurd h (by decide)
theorem fSho_b (hn : n ≤ 24) {x : Int32} {b : Nat} : bt (fSho al im n x) b = true ↔ ∃ a, (∃ j, j < n ∧ bt x j = true ∧ fE al n n j = a) ∧ zWay (zTo al im n) a b := by
  unfold fSho
  rw [fClo_way hn]
  constructor
  · rintro ⟨a, h1, h2⟩; exact ⟨a, (fEnds_b hn (Nat.le_refl _)).mp h1, h2⟩
  · rintro ⟨a, h1, h2⟩; exact ⟨a, (fEnds_b hn (Nat.le_refl _)).mpr h1, h2⟩
theorem fSho_grow (hn : n < 24) (hac : zAc al n) (hb : ∀ j b, bt (im j) b = true → j < n ∧ b < n) {x : Int32} (hx : ∀ j, bt x j = true → j < n) : fSho al im (n + 1) x = fSho al im n x := by
  apply b_ext
  intro i hi
  apply Bool.eq_iff_iff.mpr
  rw [fSho_b (by omega), fSho_b (by omega)]
  have e : ∀ a b, zTo al im (n + 1) a b ↔ zTo al im n a b := zTo_grow hn hac hb
  constructor
  · rintro ⟨a, ⟨j, hj, h1, h2⟩, w⟩
    have hj' := hx j h1
    exact ⟨a, ⟨j, hj', h1, by rw [← fE_grow1 (by omega) hac hj']; exact h2⟩, zWay_mono (fun a b => (e a b).mp) w⟩
  · rintro ⟨a, ⟨j, hj, h1, h2⟩, w⟩
    exact ⟨a, ⟨j, by omega, h1, by rw [fE_grow1 (by omega) hac hj]; exact h2⟩, zWay_mono (fun a b => (e a b).mpr) w⟩
theorem fSho_lt (hn : n ≤ 24) {x : Int32} {b : Nat} (h : bt (fSho al im n x) b = true) : b < n := by
  obtain ⟨a, ⟨j, hj, h1, h2⟩, k, w⟩ := (fSho_b hn).mp h
  cases k with
  | zero =>
    have : a = b := w
    rw [← this, ← h2]
    exact fE_lt (by omega) n j hj
  | succ k =>
    obtain ⟨c, -, r⟩ := w
    exact (zTo_lt hn r).2
theorem zRl_grow {ρ : zRS} (hn : n < 24) (hac : zAc al n) (h1 : al n = -1) (h : zRl n ρ al im) (x : Int32) : zRl (n + 1) (fWork (upd ρ.1 n (-1), ρ.2.1, ρ.2.2.1, ρ.2.2.2.1, x) (n + 1)) al im := by
  obtain ⟨e1, e2, -, e4, e5⟩ := h
  refine zRl_work (fun j hj => ?_) e2 (fCir_grow hn hac (zAc_more (by omega) hac h1) e5 e4) (fun j b hb => ⟨by have := (e5 j b hb).1; omega, by have := (e5 j b hb).2; omega⟩)
  show upd ρ.1 n (-1) j = al j
  by_cases q : j = n
  · subst q; simp [upd, h1]
  · simp only [upd, if_neg q]
    exact e1 j (by omega)
end S1
