theorem nI_nn {j : Nat} (h : j < 2 ^ 31) : ¬ nI j < 0 := by
  rw [Int32.lt_iff_toInt_lt, nI_toInt h, show (0 : Int32).toInt = 0 from rfl]; omega
theorem bt_nat (x : Int32) (i : Nat) : bt x i = x.toBitVec.toNat.testBit i := rfl
theorem bt_zero (i : Nat) : bt 0 i = false := by
  rw [bt_nat]; rw [show ((0 : Int32).toBitVec).toNat = 0 from rfl, Nat.zero_testBit]
theorem ct0 {x : Int32} : fb_ct (bt x) 32 = 0 ↔ x = 0 := by
  rw [fb_ct_zero]
  constructor
  · intro h
    exact b_ext (fun i hi => by rw [h i hi, bt_zero])
  · intro h
    subst h
    exact fun k _ => bt_zero k
def bLe (x y : Int32) : Prop := ∀ i, i < 32 → bt x i = true → bt y i = true
theorem bLe_ct {x y : Int32} (h : bLe x y) (hne : ¬ x = y) : fb_ct (bt x) 32 < fb_ct (bt y) 32 := by
  have h1 : fb_ct (bt x) 32 ≤ fb_ct (bt y) 32 := fb_ct_sub h
  rcases Nat.lt_or_ge (fb_ct (bt x) 32) (fb_ct (bt y) 32) with q | q
  · exact q
  · exfalso
    apply hne
    apply b_ext
    intro i hi
    cases hy : bt y i with
    | false =>
      cases hx : bt x i with
      | false => rfl
      | true => exact absurd (h i hi hx) (by rw [hy]; decide)
    | true =>
      cases hx : bt x i with
      | true => rfl
      | false =>
        exfalso
        have h4 := fb_ct_upd (bt x) true hi
        rw [hx] at h4
        have h5 : fb_ct (fun j => if j = i then true else bt x j) 32 ≤ fb_ct (bt y) 32 := fb_ct_sub (fun j hj hp => by
          by_cases e : j = i
          · subst e; exact hy
          · exact h j hj (by simpa [e] using hp))
        rw [if_neg (by decide), if_pos rfl] at h4
        omega
theorem bLe_or (x y : Int32) : bLe x (x ||| y) := fun i _ hb => by rw [b_or, hb]; rfl
theorem fIt_le (al im : Nat → Int32) (n : Nat) (x : Int32) (i : Nat) : bLe (fIt al im n x i) (fIt al im n x (i + 1)) := bLe_or _ _
theorem fIt_fix {al im : Nat → Int32} {n : Nat} {x : Int32} {i : Nat} (h : fIt al im n x (i + 1) = fIt al im n x i) : ∀ j, fIt al im n x (i + j) = fIt al im n x i
  | 0 => rfl
  | j + 1 => by
    show fIt al im n x (i + j) ||| fOn al im n (fIt al im n x (i + j)) n = _
    rw [fIt_fix h j]
    exact h
def zAr (al : Nat → Int32) (n : Nat) : Prop := (∀ j, j < n → al j = -1 ∨ ∃ k, k < n ∧ al j = nI k) ∧ ∃ r : Nat → Nat, ∀ j k, j < n → k < n → al j = nI k → r k < r j
theorem nI_ne {a b : Nat} (ha : a < 2 ^ 31) (hb : b < 2 ^ 31) (h : nI a = nI b) : a = b := by
  have h1 := congrArg Int32.toInt h
  rw [nI_toInt ha, nI_toInt hb] at h1
  omega
theorem nI_ne1 {a : Nat} (ha : a < 2 ^ 31) : ¬ nI a = -1 := fun h => absurd (by rw [h]; decide) (nI_nn ha)
theorem fE_m1 {al : Nat → Int32} {n k t : Nat} (h : al t = -1) : fE al n k t = t := by
  cases k with
  | zero => rfl
  | succ k => rw [fE_s, if_pos (Or.inl (by rw [h]; decide))]
theorem fE_go {al : Nat → Int32} {n k t j : Nat} (hn : n < 2 ^ 31) (hj : j < n) (h : al t = nI j) : fE al n (k + 1) t = fE al n k j := by
  rw [fE_s, h, if_neg, nI_clamp (by omega)]
  rintro (q | q)
  · exact absurd q (nI_nn (by omega))
  · exact absurd (nI_le_le (by omega) (by omega) q) (by omega)
theorem fE_more {al : Nat → Int32} {n : Nat} (hn : n < 2 ^ 31) (hA : ∀ j, j < n → al j = -1 ∨ ∃ k, k < n ∧ al j = nI k) : ∀ (k t : Nat), t < n → al (fE al n k t) = -1 → fE al n (k + 1) t = fE al n k t
  | 0, t, ht, h => fE_m1 h
  | k + 1, t, ht, h => by
    rcases hA t ht with h1 | ⟨j, hj, h1⟩
    · rw [fE_m1 h1, fE_m1 h1]
    · rw [fE_go hn hj h1] at h ⊢
      rw [fE_go hn hj h1]
      exact fE_more hn hA k j hj h
theorem zAr_in {al : Nat → Int32} {n : Nat} (hn : n < 2 ^ 31) {r : Nat → Nat} (hA : ∀ j, j < n → al j = -1 ∨ ∃ k, k < n ∧ al j = nI k) (hr : ∀ j k, j < n → k < n → al j = nI k → r k < r j) : ∀ (k t : Nat) (V : Nat → Bool), t < n → (∀ j, j < n → V j = true → r t < r j) → n ≤ fb_ct V n + k → al (fE al n k t) = -1
  | 0, t, V, ht, hV, hc => by
    exfalso
    have h1 := fb_ct_not V n
    have h2 : fb_ct (fun k => !V k) n = 0 := by omega
    have h3 := fb_ct_zero.mp h2 t ht
    have h4 : V t = true := by simpa using h3
    exact absurd (hV t ht h4) (by omega)
  | k + 1, t, V, ht, hV, hc => by
    rcases hA t ht with h1 | ⟨j, hj, h1⟩
    · rw [fE_m1 h1]; exact h1
    · rw [fE_go hn hj h1]
      have h5 := hr t j ht hj h1
      have hVt : V t = false := by
        cases hb : V t with
        | false => rfl
        | true => exact absurd (hV t ht hb) (by omega)
      have h4 := fb_ct_upd V true ht
      rw [hVt, if_neg (by decide), if_pos rfl] at h4
      refine zAr_in hn hA hr k j (fun i => if i = t then true else V i) hj (fun i hi hb => ?_) (by omega)
      by_cases e : i = t
      · subst e; exact h5
      · have := hV i hi (by simpa [e] using hb)
        omega
theorem zAr_c {al : Nat → Int32} {n : Nat} (hn : n < 2 ^ 31) (h : zAr al n) : zAc al n := by
  obtain ⟨hA, r, hr⟩ := h
  refine ⟨hA, fun j hj => zAr_in hn hA hr n j (fun _ => false) hj (fun _ _ hb => by cases hb) (by omega)⟩
def fD (al : Nat → Int32) (n : Nat) : Nat → Nat → Nat
  | 0, _ => 0
  | k + 1, t => if al t < 0 ∨ nI n ≤ al t then 0 else fD al n k (al t).toNatClampNeg + 1
theorem fD_m1 {al : Nat → Int32} {n k t : Nat} (h : al t = -1) : fD al n k t = 0 := by
  cases k with
  | zero => rfl
  | succ k => unfold fD; rw [if_pos (Or.inl (by rw [h]; decide))]
theorem fD_go {al : Nat → Int32} {n k t j : Nat} (hn : n < 2 ^ 31) (hj : j < n) (h : al t = nI j) : fD al n (k + 1) t = fD al n k j + 1 := by
  show (if al t < 0 ∨ nI n ≤ al t then 0 else fD al n k (al t).toNatClampNeg + 1) = _
  rw [h, if_neg, nI_clamp (by omega)]
  rintro (q | q)
  · exact absurd q (nI_nn (by omega))
  · exact absurd (nI_le_le (by omega) (by omega) q) (by omega)
theorem fD_more {al : Nat → Int32} {n : Nat} (hn : n < 2 ^ 31) (hA : ∀ j, j < n → al j = -1 ∨ ∃ k, k < n ∧ al j = nI k) : ∀ (k t : Nat), t < n → al (fE al n k t) = -1 → fD al n (k + 1) t = fD al n k t
  | 0, t, ht, h => fD_m1 h
  | k + 1, t, ht, h => by
    rcases hA t ht with h1 | ⟨j, hj, h1⟩
    · rw [fD_m1 h1, fD_m1 h1]
    · rw [fE_go hn hj h1] at h
      rw [fD_go hn hj h1, fD_go hn hj h1, fD_more hn hA k j hj h]
theorem zAc_step {al : Nat → Int32} {n t j : Nat} (hn : n < 2 ^ 31) (h : zAc al n) (ht : t < n) (hj : j < n) (e : al t = nI j) : fE al n n t = fE al n n j ∧ fD al n n t = fD al n n j + 1 := by
  obtain ⟨m, rfl⟩ : ∃ m, n = m + 1 := ⟨n - 1, by omega⟩
  have h1 := h.2 t ht
  rw [fE_go hn hj e] at h1
  rw [fE_go hn hj e, fD_go hn hj e]
  exact ⟨(fE_more hn h.1 m j hj h1).symm, by rw [fD_more hn h.1 m j hj h1]⟩
theorem zAc_r {al : Nat → Int32} {n : Nat} (hn : n < 2 ^ 31) (h : zAc al n) : zAr al n :=
  ⟨h.1, fD al n n, fun j k hj hk e => by have := (zAc_step hn h hj hk e).2; omega⟩
theorem zAc_alias {al : Nat → Int32} {n t o : Nat} (hn : n < 2 ^ 31) (h : zAc al n) (ht : t < n) (ho : o < n) (h1 : al t = -1) (h2 : ¬ fE al n n o = t) : zAc (upd al t (nI o)) n := by
  apply zAr_c hn
  refine ⟨fun j hj => ?_, fun j => if fE al n n j = t then fD al n n j + (fD al n n o + 1) else fD al n n j, fun j k hj hk e => ?_⟩
  · by_cases q : j = t
    · exact Or.inr ⟨o, ho, by simp [upd, q]⟩
    · rcases h.1 j hj with h3 | h3
      · exact Or.inl (by simp [upd, q, h3])
      · exact Or.inr (by simpa [upd, q] using h3)
  · by_cases q : j = t
    · subst q
      have e1 : nI o = nI k := by simpa [upd] using e
      have e2 := nI_ne (by omega) (by omega) e1
      subst e2
      dsimp only
      rw [if_neg h2, if_pos (fE_m1 h1)]
      omega
    · have e1 : al j = nI k := by simpa [upd, q] using e
      obtain ⟨h3, h4⟩ := zAc_step hn h hj hk e1
      simp only [h3, h4]
      split <;> omega
theorem zAc_lift {al : Nat → Int32} {n t : Nat} (hn : n < 2 ^ 31) (h : zAc al n) : zAc (upd al t (-1)) n := by
  apply zAr_c hn
  refine ⟨fun j hj => ?_, fD al n n, fun j k hj hk e => ?_⟩
  · by_cases q : j = t
    · exact Or.inl (by simp [upd, q])
    · rcases h.1 j hj with h3 | h3
      · exact Or.inl (by simp [upd, q, h3])
      · exact Or.inr (by simpa [upd, q] using h3)
  · by_cases q : j = t
    · subst q
      have : (-1 : Int32) = nI k := by simpa [upd] using e
      exact absurd this.symm (nI_ne1 (by omega))
    · have e1 : al j = nI k := by simpa [upd, q] using e
      have := (zAc_step hn h hj hk e1).2
      omega
theorem zAc_more {al : Nat → Int32} {n : Nat} (hn : n + 1 < 2 ^ 31) (h : zAc al n) (h1 : al n = -1) : zAc al (n + 1) := by
  apply zAr_c hn
  refine ⟨fun j hj => ?_, fD al n n, fun j k hj hk e => ?_⟩
  · by_cases q : j = n
    · subst q; exact Or.inl h1
    · rcases h.1 j (by omega) with h3 | ⟨k, hk, h3⟩
      · exact Or.inl h3
      · exact Or.inr ⟨k, by omega, h3⟩
  · by_cases q : j = n
    · subst q
      rw [h1] at e
      exact absurd e.symm (nI_ne1 (by omega))
    · rcases h.1 j (by omega) with h3 | ⟨k2, hk2, h3⟩
      · rw [h3] at e
        exact absurd e.symm (nI_ne1 (by omega))
      · have e2 := nI_ne (by omega) (by omega) (h3.symm.trans e)
        subst e2
        have := (zAc_step (by omega) h (by omega) hk2 h3).2
        omega
theorem fMay_ac {al im : Nat → Int32} {n t o : Nat} {k : Int32} (hn : n < 2 ^ 31) (h : zAc al n) (ht : t < n) (ho : o < n) (hm : fMay al im n k t o = true) : zAc (fDoA al k t o) n := by
  unfold fMay at hm
  unfold fDoA
  by_cases h0 : k = 0
  · subst h0
    rw [if_pos rfl]
    simp at hm
    exact zAc_alias hn h ht ho hm.1.1 hm.1.2
  · rw [if_neg h0]
    by_cases h2 : k = 2
    · subst h2
      rw [if_pos rfl]
      exact zAc_lift hn h
    · rw [if_neg h2]
      rw [show upd al t (al t) = al from funext fun i => by by_cases e : i = t <;> simp [upd, e]]
      exact h
theorem ok4 {k : Int32} (h : okI k 4) : k = 0 ∨ k = 1 ∨ k = 2 ∨ k = 3 := by
  rw [show (4 : Int32) = nI 4 from rfl] at h
  obtain ⟨i, hi, rfl⟩ := (okI_n (by decide)).mp h
  match i, hi with
  | 0, _ => exact Or.inl rfl
  | 1, _ => exact Or.inr (Or.inl rfl)
  | 2, _ => exact Or.inr (Or.inr (Or.inl rfl))
  | 3, _ => exact Or.inr (Or.inr (Or.inr rfl))
theorem upd_back {al : Nat → Int32} {t : Nat} {x y : Int32} (h : al t = y) : upd (upd al t x) t y = al := by
  funext i
  by_cases e : i = t
  · subst e; simp [upd, h]
  · simp [upd, e]
theorem upd_id {al : Nat → Int32} {t : Nat} : upd al t (al t) = al := by
  funext i
  by_cases e : i = t
  · subst e; simp [upd]
  · simp [upd, e]
theorem fOk_n {x : Int32} {n : Nat} (hn : n < 2 ^ 31) : fOk x (nI n) = true ↔ ∃ i, i < n ∧ x = nI i := by
  rw [← okI_n hn]
  unfold fOk okI
  simp
theorem tn_nI {i : Nat} (h : i < 2 ^ 31) : tn (nI i) = i := nI_clamp h

theorem gUs_thr {μ : zMS} {x : Int32} {n t : Nat} : ∀ i, gUs (vThr μ x) n t i = gUs μ n t i
  | 0 => rfl
  | i + 1 => by
    unfold gUs
    rw [gUs_thr i]
    rfl
theorem gFd_thr {μ : zMS} {x : Int32} {d : Nat} : ∀ i, gFd (vThr μ x) d i = gFd μ d i
  | 0 => rfl
  | i + 1 => by
    unfold gFd
    rw [gFd_thr i]
    rfl
