section S4
/-! from where a thing shows a tag -/
theorem zWn_left {R : Nat → Nat → Prop} : ∀ {k a b : Nat}, zWn R (k + 1) a b ↔ ∃ c, R a c ∧ zWn R k c b
  | 0, a, b => by
    constructor
    · rintro ⟨c, h1, h2⟩
      have : a = c := h1
      subst this
      exact ⟨b, h2, rfl⟩
    · rintro ⟨c, h1, h2⟩
      have : c = b := h2
      subst this
      exact ⟨a, rfl, h1⟩
  | k + 1, a, b => by
    constructor
    · rintro ⟨c, h1, h2⟩
      obtain ⟨e, h3, h4⟩ := zWn_left.mp h1
      exact ⟨e, h3, c, h4, h2⟩
    · rintro ⟨c, h1, e, h2, h3⟩
      exact ⟨e, zWn_left.mpr ⟨c, h1, h2⟩, h3⟩
theorem fIt_k {al im : Nat → Int32} {n : Nat} (hn : n ≤ 24) {x : Int32} : ∀ (i b : Nat), bt (fIt al im n x i) b = true ↔ ∃ a, bt x a = true ∧ ∃ k, k ≤ i ∧ zWn (zTo al im n) k a b
  | 0, b => by
    constructor
    · intro h; exact ⟨b, h, 0, Nat.le_refl _, rfl⟩
    · rintro ⟨a, h, k, hk, w⟩
      have : k = 0 := by omega
      subst this
      have : a = b := w
      subst this
      exact h
  | i + 1, b => by
    have ih := fIt_k (al := al) (im := im) hn (x := x) i
    show bt (fIt al im n x i ||| fOn al im n (fIt al im n x i) n) b = true ↔ _
    rw [b_or, Bool.or_eq_true, ih, fOn_to hn]
    constructor
    · rintro (⟨a, h1, k, hk, w⟩ | ⟨c, h1, r⟩)
      · exact ⟨a, h1, k, by omega, w⟩
      · obtain ⟨a, h2, k, hk, w⟩ := (ih c).mp h1
        exact ⟨a, h2, k + 1, by omega, c, w, r⟩
    · rintro ⟨a, h1, k, hk, w⟩
      by_cases q : k ≤ i
      · exact Or.inl ⟨a, h1, k, q, w⟩
      · have : k = i + 1 := by omega
        subst this
        obtain ⟨c, w, r⟩ := w
        exact Or.inr ⟨c, (ih c).mpr ⟨a, h1, i, Nat.le_refl _, w⟩, r⟩
theorem fFar_spec {al im : Nat → Int32} {n t : Nat} {x : Int32} : ∀ (f i : Nat), i ≤ fFar al im n t f i (fIt al im n x i) ∧ fFar al im n t f i (fIt al im n x i) ≤ i + f ∧ (∀ k, i ≤ k → k < fFar al im n t f i (fIt al im n x i) → bt (fIt al im n x k) t = false) ∧ (fFar al im n t f i (fIt al im n x i) < i + f → bt (fIt al im n x (fFar al im n t f i (fIt al im n x i))) t = true)
  | 0, i => by
    refine ⟨Nat.le_refl _, Nat.le_refl _, fun k h1 h2 => ?_, fun h => ?_⟩
    · have h2 : k < i := h2
      omega
    · have h : i < i + 0 := h
      omega
  | f + 1, i => by
    have e : fFar al im n t (f + 1) i (fIt al im n x i) = if bt (fIt al im n x i) t then i else fFar al im n t f (i + 1) (fIt al im n x (i + 1)) := rfl
    obtain ⟨h1, h2, h3, h4⟩ := fFar_spec (al := al) (im := im) (n := n) (t := t) (x := x) f (i + 1)
    by_cases hb : bt (fIt al im n x i) t = true
    · rw [e, if_pos hb]
      exact ⟨Nat.le_refl _, by omega, fun k h5 h6 => by omega, fun _ => hb⟩
    · rw [e, if_neg hb]
      refine ⟨by omega, by omega, fun k h5 h6 => ?_, fun h5 => h4 (by omega)⟩
      by_cases q : k = i
      · subst q; simpa using hb
      · exact h3 k (by omega) h6
/-- how far it is from a to t: 25 where no way leads there -/
def gD (al im : Nat → Int32) (n t a : Nat) : Nat := fFar al im n t 25 0 (sh1 a)
theorem gD_le {al im : Nat → Int32} {n t a k : Nat} (hn : n ≤ 24) (ha : a < n) (hk : k ≤ 24) : gD al im n t a ≤ k ↔ ∃ k', k' ≤ k ∧ zWn (zTo al im n) k' a t := by
  obtain ⟨h1, h2, h3, h4⟩ := fFar_spec (al := al) (im := im) (n := n) (t := t) (x := sh1 a) 25 0
  have hI : ∀ k, bt (fIt al im n (sh1 a) k) t = true ↔ ∃ k', k' ≤ k ∧ zWn (zTo al im n) k' a t := fun k => by
    rw [fIt_k hn]
    constructor
    · rintro ⟨c, hc, h⟩
      rw [bt_shn (by omega)] at hc
      have : c = a := of_decide_eq_true hc
      subst this
      exact h
    · intro h
      exact ⟨a, by rw [bt_shn (by omega)]; simp, h⟩
  show fFar al im n t 25 0 (fIt al im n (sh1 a) 0) ≤ k ↔ _
  constructor
  · intro h
    obtain ⟨k', hk', w⟩ := (hI _).mp (h4 (by omega))
    exact ⟨k', by omega, w⟩
  · rintro ⟨k', hk', w⟩
    refine Nat.le_of_not_lt fun q => ?_
    have := h3 k (by omega) q
    rw [(hI k).mpr ⟨k', hk', w⟩] at this
    exact absurd this (by decide)
/-- backwards, a step at a time -/
def fNr (nx : Nat → Int32) (n t : Nat) : Nat → Int32
  | 0 => sh1 t
  | k + 1 => fNr nx n t k ||| fLt nx (fNr nx n t k) n
theorem fLt_b {nx : Nat → Int32} {set : Int32} {a : Nat} : ∀ i, i ≤ 32 → (bt (fLt nx set i) a = true ↔ a < i ∧ ¬ nx a &&& set = 0)
  | 0, _ => by
    unfold fLt
    rw [bt_zero]
    exact ⟨fun h => absurd h (by decide), fun h => absurd h.1 (by omega)⟩
  | i + 1, hi => by
    have ih := fLt_b (nx := nx) (set := set) (a := a) i (by omega)
    unfold fLt
    by_cases q : nx i &&& set = 0
    · rw [if_pos q, ih]
      exact ⟨fun h => ⟨by omega, h.2⟩, fun h => ⟨by
        rcases Nat.lt_or_ge a i with w | w
        · exact w
        · have : a = i := by omega
          subst this
          exact absurd q h.2, h.2⟩⟩
    · rw [if_neg q, b_or, Bool.or_eq_true, ih, bt_shn (by omega), decide_eq_true_iff]
      constructor
      · rintro (h | h)
        · exact ⟨by omega, h.2⟩
        · subst h; exact ⟨by omega, q⟩
      · rintro ⟨h1, h2⟩
        by_cases w : a = i
        · exact Or.inr w
        · exact Or.inl ⟨by omega, h2⟩
theorem fNr_b {al im nx0 : Nat → Int32} {n t : Nat} (hn : n ≤ 24) (ht : t < n) : ∀ (k a : Nat), bt (fNr (fNx al im n nx0 n) n t k) a = true ↔ a < n ∧ ∃ k', k' ≤ k ∧ zWn (zTo al im n) k' a t
  | 0, a => by
    show bt (sh1 t) a = true ↔ _
    rw [bt_shn (by omega), decide_eq_true_iff]
    constructor
    · intro h; subst h; exact ⟨ht, 0, Nat.le_refl _, rfl⟩
    · rintro ⟨_, k, hk, w⟩
      have : k = 0 := by omega
      subst this
      exact w
  | k + 1, a => by
    have ih := fNr_b (al := al) (im := im) (nx0 := nx0) hn ht k
    show bt (fNr (fNx al im n nx0 n) n t k ||| fLt (fNx al im n nx0 n) (fNr (fNx al im n nx0 n) n t k) n) a = true ↔ _
    rw [b_or, Bool.or_eq_true, ih, fLt_b n (by omega)]
    constructor
    · rintro (⟨h1, k', hk', w⟩ | ⟨h1, h2⟩)
      · exact ⟨h1, k', by omega, w⟩
      · refine ⟨h1, ?_⟩
        have h3 : ∃ c, c < 32 ∧ bt (fNx al im n nx0 n a) c = true ∧ bt (fNr (fNx al im n nx0 n) n t k) c = true := by
          refine Classical.byContradiction fun q => h2 (and_0.mpr fun c hc hb => ?_)
          cases hd : bt (fNr (fNx al im n nx0 n) n t k) c with
          | false => rfl
          | true => exact absurd ⟨c, hc, hb, hd⟩ q
        obtain ⟨c, -, hb, hd⟩ := h3
        obtain ⟨-, k', hk', w⟩ := (ih c).mp hd
        exact ⟨k' + 1, by omega, zWn_left.mpr ⟨c, (fNx_to hn h1).mp hb, w⟩⟩
    · rintro ⟨h1, k', hk', w⟩
      cases k' with
      | zero => exact Or.inl ⟨h1, 0, by omega, w⟩
      | succ k' =>
        obtain ⟨c, r, w⟩ := zWn_left.mp w
        have hc := (zTo_lt hn r).2
        refine Or.inr ⟨h1, fun q => ?_⟩
        have := (and_0.mp q) c (by omega) ((fNx_to hn h1).mpr r)
        rw [(ih c).mpr ⟨hc, k', by omega, w⟩] at this
        exact absurd this (by decide)
theorem fNr_fix {nx : Nat → Int32} {n t j : Nat} (h : fNr nx n t (j + 1) = fNr nx n t j) : ∀ i, fNr nx n t (j + i) = fNr nx n t j
  | 0 => rfl
  | i + 1 => by
    show fNr nx n t (j + i) ||| fLt nx (fNr nx n t (j + i)) n = _
    rw [fNr_fix h i]
    exact h
theorem fNr_grow {nx : Nat → Int32} {n t : Nat} (ht : t < 32) : ∀ k, (∃ j, j < k ∧ fNr nx n t (j + 1) = fNr nx n t j) ∨ k + 1 ≤ fb_ct (bt (fNr nx n t k)) 32
  | 0 => Or.inr (by
    show 1 ≤ fb_ct (bt (sh1 t)) 32
    exact fb_ct_pos.mpr ⟨t, ht, by rw [bt_shn ht]; simp⟩)
  | k + 1 => by
    rcases fNr_grow (nx := nx) (n := n) ht k with ⟨j, hj, h⟩ | h
    · exact Or.inl ⟨j, by omega, h⟩
    · by_cases q : fNr nx n t (k + 1) = fNr nx n t k
      · exact Or.inl ⟨k, by omega, q⟩
      · have := bLe_ct (x := fNr nx n t k) (y := fNr nx n t (k + 1)) (bLe_or _ _) (fun h => q h.symm)
        exact Or.inr (by omega)
/-- a way there is no longer than the tags are many -/
theorem gD_lt {al im : Nat → Int32} {n t a : Nat} (hn : n ≤ 24) (ht : t < n) (ha : a < n) (h : gD al im n t a ≤ 24) : gD al im n t a < n := by
  obtain ⟨k, hk, w⟩ := (gD_le hn ha (Nat.le_refl 24)).mp h
  have h1 : ∃ j, j < n ∧ fNr (fNx al im n im n) n t (j + 1) = fNr (fNx al im n im n) n t j := by
    rcases fNr_grow (nx := fNx al im n im n) (n := n) (t := t) (by omega) n with h | h
    · exact h
    · exfalso
      have h2 : fb_ct (bt (fNr (fNx al im n im n) n t n)) 32 = fb_ct (bt (fNr (fNx al im n im n) n t n)) n := by
        refine ct_cut (p := bt (fNr (fNx al im n im n) n t n)) (by omega) (fun i hi => ?_)
        cases hb : bt (fNr (fNx al im n im n) n t n) i with
        | false => simp
        | true =>
          have := ((fNr_b hn ht n i).mp hb).1
          simp [this]
      have h3 := fb_ct_le (bt (fNr (fNx al im n im n) n t n)) n
      omega
  obtain ⟨j, hj, e⟩ := h1
  have h4 : bt (fNr (fNx al im n im n) n t (j + k)) a = true := (fNr_b hn ht _ a).mpr ⟨ha, k, by omega, w⟩
  rw [fNr_fix e k] at h4
  obtain ⟨-, k', hk', w'⟩ := (fNr_b hn ht j a).mp h4
  have := (gD_le hn ha (k := j) (by omega)).mpr ⟨k', hk', w'⟩
  omega
/-! the best of the tags set by hand -/
def gB (s : Nat → Bool) (d : Nat → Nat) : Nat → Int32
  | 0 => -1
  | j + 1 => if s j && (decide (d j ≤ 24) && (decide (gB s d j = -1) || decide (nI (d j) < gB s d j / 100))) then nI (100 * d j + j) else gB s d j
theorem gRe_B {μ : zMS} {n i t : Nat} : ∀ j, gRe μ n i t j = gB (bt (mSe μ i)) (fun j => gD (mAl μ) (mIm μ) n t (fE (mAl μ) n n j)) j
  | 0 => rfl
  | j + 1 => by
    unfold gRe gB
    rw [gRe_B j]
    rfl
theorem div100 : ∀ d, d < 26 → ∀ i, i < 25 → nI (100 * d + i) / 100 = nI d := by decide +kernel
def gBest (s : Nat → Bool) (d : Nat → Nat) (j i : Nat) : Prop := i < j ∧ s i = true ∧ d i ≤ 24 ∧ (∀ i', i' < j → s i' = true → d i ≤ d i') ∧ ∀ i', i' < i → s i' = true → d i < d i'
theorem gB_spec {s : Nat → Bool} {d : Nat → Nat} (hd : ∀ j, d j ≤ 25) : ∀ j, j ≤ 24 → (gB s d j = -1 ∧ ∀ i, i < j → s i = true → ¬ d i ≤ 24) ∨ ∃ i, gB s d j = nI (100 * d i + i) ∧ gBest s d j i
  | 0, _ => Or.inl ⟨rfl, fun i hi => absurd hi (by omega)⟩
  | j + 1, hj => by
    have ih := gB_spec (s := s) hd j (by omega)
    unfold gB
    by_cases h1 : s j = true
    · by_cases h2 : d j ≤ 24
      · rcases ih with ⟨e, h3⟩ | ⟨i, e, h3⟩
        · rw [e, if_pos (by simp [h1, h2])]
          refine Or.inr ⟨j, rfl, by omega, h1, h2, fun i' hi' hs => ?_, fun i' hi' hs => ?_⟩
          · by_cases q : i' = j
            · subst q; exact Nat.le_refl _
            · have := h3 i' (by omega) hs
              omega
          · have := h3 i' hi' hs
            omega
        · have hi := h3.1
          have hne : ¬ nI (100 * d i + i) = -1 := nI_ne1 (by have := h3.2.2.1; omega)
          have hlt : nI (d j) < nI (100 * d i + i) / 100 ↔ d j < d i := by
            rw [div100 (d i) (by have := hd i; omega) i (by omega), nI_ltI (by omega) (by have := hd i; omega)]
          rw [e]
          by_cases q : d j < d i
          · rw [if_pos (by simp [h1, h2, hlt.mpr q])]
            refine Or.inr ⟨j, rfl, by omega, h1, h2, fun i' hi' hs => ?_, fun i' hi' hs => ?_⟩
            · by_cases q2 : i' = j
              · subst q2; exact Nat.le_refl _
              · have := h3.2.2.2.1 i' (by omega) hs
                omega
            · have := h3.2.2.2.1 i' hi' hs
              omega
          · rw [if_neg (by simp [hne, hlt, q])]
            refine Or.inr ⟨i, rfl, by omega, h3.2.1, h3.2.2.1, fun i' hi' hs => ?_, h3.2.2.2.2⟩
            by_cases q2 : i' = j
            · subst q2; omega
            · exact h3.2.2.2.1 i' (by omega) hs
      · rw [if_neg (by simp [h2])]
        rcases ih with ⟨e, h3⟩ | ⟨i, e, h3⟩
        · refine Or.inl ⟨e, fun i hi hs => ?_⟩
          by_cases q : i = j
          · subst q; exact h2
          · exact h3 i (by omega) hs
        · refine Or.inr ⟨i, e, by have := h3.1; omega, h3.2.1, h3.2.2.1, fun i' hi' hs => ?_, h3.2.2.2.2⟩
          by_cases q : i' = j
          · subst q
            have := h3.2.2.1
            omega
          · exact h3.2.2.2.1 i' (by omega) hs
    · rw [if_neg (by simp [h1])]
      rcases ih with ⟨e, h3⟩ | ⟨i, e, h3⟩
      · refine Or.inl ⟨e, fun i hi hs => ?_⟩
        by_cases q : i = j
        · subst q; exact absurd hs h1
        · exact h3 i (by omega) hs
      · refine Or.inr ⟨i, e, by have := h3.1; omega, h3.2.1, h3.2.2.1, fun i' hi' hs => ?_, h3.2.2.2.2⟩
        by_cases q : i' = j
        · subst q; exact absurd hs h1
        · exact h3.2.2.2.1 i' (by omega) hs
theorem fFind_low {q : Nat → Bool} {n i : Nat} (hi : i < n) (hq : q i = true) (hl : ∀ j, j < i → q j = false) : ∀ (f k : Nat), k + f = n → k ≤ i → fFind q n f k = some i
  | 0, k, h1, h2 => by omega
  | f + 1, k, h1, h2 => by
    rw [fFind_s, if_pos (by omega)]
    by_cases e : k = i
    · subst e; rw [if_pos hq]
    · rw [if_neg (by rw [hl k (by omega)]; decide)]
      exact fFind_low hi hq hl f (k + 1) (by omega) (by omega)
theorem fFind_no {q : Nat → Bool} {n : Nat} (h : ∀ j, j < n → q j = false) : ∀ (f k : Nat), fFind q n f k = none
  | 0, _ => rfl
  | f + 1, k => by
    rw [fFind_s]
    by_cases hk : k < n
    · rw [if_pos hk, if_neg (by rw [h k hk]; decide)]
      exact fFind_no h f (k + 1)
    · rw [if_neg hk]
theorem n100 : ∀ st, st < 25 → ∀ i, i < 25 → (100 : Int32) * nI st + nI i = nI (100 * st + i) := by decide +kernel
theorem fNear_hit {al nx : Nat → Int32} {n t i : Nat} {set : Int32} {d : Nat → Nat} (hn : n ≤ 24) (hN : ∀ k, k < n → ∀ i, i < n → (bt (fNr nx n t k) (fE al n n i) = true ↔ d i ≤ k)) (hb : gBest (bt set) d n i) (hdi : d i < n) : ∀ (f st : Nat), st + f = n → st ≤ d i → fNear al nx n set f st (fNr nx n t st) = nI (100 * d i + i)
  | 0, st, h1, h2 => by omega
  | f + 1, st, h1, h2 => by
    obtain ⟨hi, hs, -, hbe, hlo⟩ := hb
    unfold fNear
    by_cases e : st = d i
    · have hq : ∀ j, j < n → ((bt set j && bt (fNr nx n t st) (fE al n n j)) = true ↔ bt set j = true ∧ d j ≤ d i) := fun j hj => by
        rw [Bool.and_eq_true, hN st (by omega) j hj, e]
      rw [fFind_low (i := i) hi ((hq i hi).mpr ⟨hs, Nat.le_refl _⟩) (fun j hj => by
        cases hc : (bt set j && bt (fNr nx n t st) (fE al n n j)) with
        | false => rfl
        | true =>
          obtain ⟨h3, h4⟩ := (hq j (by omega)).mp hc
          have := hlo j hj h3
          omega) n 0 (by omega) (by omega)]
      show 100 * nI st + nI i = _
      rw [n100 st (by omega) i (by omega), e]
    · rw [fFind_no (fun j hj => by
        cases hc : (bt set j && bt (fNr nx n t st) (fE al n n j)) with
        | false => rfl
        | true =>
          rw [Bool.and_eq_true, hN st (by omega) j hj] at hc
          have := hbe j hj hc.1
          omega) n 0]
      show fNear al nx n set f (st + 1) (fNr nx n t (st + 1)) = _
      exact fNear_hit hn hN ⟨hi, hs, by omega, hbe, hlo⟩ hdi f (st + 1) (by omega) (by omega)
theorem fNear_miss {al nx : Nat → Int32} {n t : Nat} {set : Int32} {d : Nat → Nat} (hN : ∀ k, k < n → ∀ i, i < n → (bt (fNr nx n t k) (fE al n n i) = true ↔ d i ≤ k)) (hb : ∀ i, i < n → bt set i = true → n ≤ d i) : ∀ (f st : Nat), st + f = n → fNear al nx n set f st (fNr nx n t st) = -1
  | 0, st, h1 => rfl
  | f + 1, st, h1 => by
    unfold fNear
    rw [fFind_no (fun j hj => by
      cases hc : (bt set j && bt (fNr nx n t st) (fE al n n j)) with
      | false => rfl
      | true =>
        rw [Bool.and_eq_true, hN st (by omega) j hj] at hc
        have := hb j hj hc.1
        omega) n 0]
    show fNear al nx n set f (st + 1) (fNr nx n t (st + 1)) = _
    exact fNear_miss hN hb f (st + 1) (by omega)
theorem gD_25 {al im : Nat → Int32} {n t a : Nat} : gD al im n t a ≤ 25 := by
  have := (fFar_spec (al := al) (im := im) (n := n) (t := t) (x := sh1 a) 25 0).2.1
  show fFar al im n t 25 0 (fIt al im n (sh1 a) 0) ≤ 25
  omega
theorem reason_eq {ρ : zRS} {μ : zMS} {n t i : Nat} (hn : n ≤ 24) (ht : t < n) (h : zRl n ρ (mAl μ) (mIm μ)) : fNear ρ.1 ρ.2.2.1 n (mSe μ i) n 0 (sh1 t) = if bt (gSh μ n i) t then gRe μ n i t n else -1 := by
  obtain ⟨e1, e2, ⟨nx, re, e3, -⟩, -⟩ := h
  have hR : ∀ a b, zTo ρ.1 ρ.2.1 n a b ↔ zTo (mAl μ) (mIm μ) n a b := fun a b => by
    constructor
    · rintro ⟨j, hj, e, l, hl, hb, e4⟩
      exact ⟨j, hj, by rw [← fE_congr (by omega) e1 n j hj]; exact e, l, hl, by rw [← e2]; exact hb, by rw [← fE_congr (by omega) e1 n l hl]; exact e4⟩
    · rintro ⟨j, hj, e, l, hl, hb, e4⟩
      exact ⟨j, hj, by rw [fE_congr (by omega) e1 n j hj]; exact e, l, hl, by rw [e2]; exact hb, by rw [fE_congr (by omega) e1 n l hl]; exact e4⟩
  have hRe : zTo ρ.1 ρ.2.1 n = zTo (mAl μ) (mIm μ) n := funext fun a => funext fun b => propext (hR a b)
  have hE : ∀ j, j < n → fE (mAl μ) n n j < n := fun j hj => fE_lt (by omega) n j hj
  have hN : ∀ k, k < n → ∀ j, j < n → (bt (fNr ρ.2.2.1 n t k) (fE ρ.1 n n j) = true ↔ gD (mAl μ) (mIm μ) n t (fE (mAl μ) n n j) ≤ k) := fun k hk j hj => by
    rw [e3, fNr_b hn ht, fE_congr (by omega) e1 n j hj, gD_le hn (hE j hj) (by omega), hRe]
    exact ⟨fun h => h.2, fun h => ⟨hE j hj, h⟩⟩
  have hsh : bt (gSh μ n i) t = true ↔ ∃ j, j < n ∧ bt (mSe μ i) j = true ∧ gD (mAl μ) (mIm μ) n t (fE (mAl μ) n n j) ≤ 24 := by
    show bt (fSho (mAl μ) (mIm μ) n (mSe μ i)) t = true ↔ _
    rw [fSho_b hn]
    constructor
    · rintro ⟨a, ⟨j, hj, hb, rfl⟩, k, w⟩
      refine ⟨j, hj, hb, ?_⟩
      have h4 : bt (fNr (fNx (mAl μ) (mIm μ) n (mIm μ) n) n t k) (fE (mAl μ) n n j) = true := (fNr_b hn ht k _).mpr ⟨hE j hj, k, Nat.le_refl _, w⟩
      rcases fNr_grow (nx := fNx (mAl μ) (mIm μ) n (mIm μ) n) (n := n) (t := t) (by omega) n with ⟨j', hj', e⟩ | h
      · have h5 : bt (fNr (fNx (mAl μ) (mIm μ) n (mIm μ) n) n t (j' + k)) (fE (mAl μ) n n j) = true := (fNr_b hn ht _ _).mpr ⟨hE j hj, k, by omega, w⟩
        rw [fNr_fix e k] at h5
        obtain ⟨-, k', hk', w'⟩ := (fNr_b hn ht j' _).mp h5
        exact (gD_le hn (hE j hj) (Nat.le_refl 24)).mpr ⟨k', by omega, w'⟩
      · exfalso
        have h2 : fb_ct (bt (fNr (fNx (mAl μ) (mIm μ) n (mIm μ) n) n t n)) 32 = fb_ct (bt (fNr (fNx (mAl μ) (mIm μ) n (mIm μ) n) n t n)) n := by
          refine ct_cut (p := bt (fNr (fNx (mAl μ) (mIm μ) n (mIm μ) n) n t n)) (by omega) (fun i hi => ?_)
          cases hb : bt (fNr (fNx (mAl μ) (mIm μ) n (mIm μ) n) n t n) i with
          | false => simp
          | true =>
            have := ((fNr_b hn ht n i).mp hb).1
            simp [this]
        have h3 := fb_ct_le (bt (fNr (fNx (mAl μ) (mIm μ) n (mIm μ) n) n t n)) n
        omega
    · rintro ⟨j, hj, hb, hd⟩
      obtain ⟨k, -, w⟩ := (gD_le hn (hE j hj) (Nat.le_refl 24)).mp hd
      exact ⟨_, ⟨j, hj, hb, rfl⟩, k, w⟩
  rw [gRe_B]
  rcases gB_spec (s := bt (mSe μ i)) (d := fun j => gD (mAl μ) (mIm μ) n t (fE (mAl μ) n n j)) (fun j => gD_25) n hn with ⟨e, h3⟩ | ⟨j, e, h3⟩
  · rw [if_neg (fun q => by
      obtain ⟨j, hj, hb, hd⟩ := hsh.mp q
      exact h3 j hj hb hd)]
    exact fNear_miss (d := fun j => gD (mAl μ) (mIm μ) n t (fE (mAl μ) n n j)) hN (fun j hj hb => by
      have := h3 j hj hb
      show n ≤ gD (mAl μ) (mIm μ) n t (fE (mAl μ) n n j)
      have h9 : ¬ gD (mAl μ) (mIm μ) n t (fE (mAl μ) n n j) ≤ 24 := this
      omega) n 0 (by omega)
  · rw [if_pos (hsh.mpr ⟨j, h3.1, h3.2.1, h3.2.2.1⟩), e]
    exact fNear_hit (d := fun j => gD (mAl μ) (mIm μ) n t (fE (mAl μ) n n j)) hn hN h3 (gD_lt hn ht (hE j h3.1) h3.2.2.1) n 0 (by omega) (by omega)
end S4
