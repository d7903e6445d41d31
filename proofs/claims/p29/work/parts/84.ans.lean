section S3
/-! the questions -/
theorem gUs_ct {μ : zMS} {n t : Nat} : ∀ i, gUs μ n t i = fb_ct (fun i => bt (gSh μ n i) t) i
  | 0 => rfl
  | i + 1 => by
    unfold gUs
    rw [gUs_ct i, fb_ct_succ]
theorem gMm_ct {μ : zMS} {n : Nat} {x y z : Int32} : ∀ i, gMm μ n x y z i = fb_ct (fun i => gMt μ n i x y z) i
  | 0 => rfl
  | i + 1 => by
    unfold gMm
    rw [gMm_ct i, fb_ct_succ]
theorem zWo_us {ω : Nat → Int32} {μ : zMS} {n m t : Nat} (hn : n ≤ 24) (hm : m ≤ 20) (h : zWo n m (mAl μ) (mIm μ) (mSe μ) ω) (ht : t < n) : fBc (ω t) = nI (gUs μ n t m) := by
  rw [fBc_count, gUs_ct]
  apply congrArg
  exact ct_cut (by omega) (fun i hi => by rw [h t i (by omega) hi, decide_eq_true ht, Bool.true_and]; rfl)
theorem mask_b : ∀ m, m < 21 → ∀ i, i < 32 → bt (sh1 m - 1) i = decide (i < m) := by decide +kernel
theorem and_0 {x y : Int32} : x &&& y = 0 ↔ ∀ i, i < 32 → bt x i = true → bt y i = false := by
  constructor
  · intro h i hi hx
    have h0 : bt (x &&& y) i = false := by rw [h, bt_zero]
    rw [b_and, hx, Bool.true_and] at h0
    exact h0
  · intro h
    apply b_ext
    intro i hi
    rw [b_and, bt_zero]
    cases hx : bt x i with
    | false => rfl
    | true => rw [h i hi hx]; rfl
theorem fMtF_b {al sh : Nat → Int32} {n : Nat} {x z f0 : Int32} {i : Nat} (hi : i < 32) : ∀ k, (bt (fMtF al n sh x z f0 k) i = true ↔ bt f0 i = true ∧ (∀ t, t < k → bt x t = true → bt (sh (fE al n n t)) i = true) ∧ ∀ t, t < k → bt z t = true → bt (sh (fE al n n t)) i = false)
  | 0 => by
    unfold fMtF
    exact ⟨fun h => ⟨h, fun t ht => absurd ht (by omega), fun t ht => absurd ht (by omega)⟩, fun h => h.1⟩
  | k + 1 => by
    have ih := fMtF_b (al := al) (sh := sh) (n := n) (x := x) (z := z) (f0 := f0) hi k
    have hp : bt (if bt x k then fMtF al n sh x z f0 k &&& sh (fE al n n k) else fMtF al n sh x z f0 k) i = true ↔ bt (fMtF al n sh x z f0 k) i = true ∧ (bt x k = true → bt (sh (fE al n n k)) i = true) := by
      by_cases hx : bt x k = true
      · rw [if_pos hx, b_and, Bool.and_eq_true]
        exact ⟨fun h => ⟨h.1, fun _ => h.2⟩, fun h => ⟨h.1, h.2 hx⟩⟩
      · rw [if_neg hx]
        exact ⟨fun h => ⟨h, fun q => absurd q hx⟩, fun h => h.1⟩
    have hz : bt (fMtF al n sh x z f0 (k + 1)) i = true ↔ (bt (fMtF al n sh x z f0 k) i = true ∧ (bt x k = true → bt (sh (fE al n n k)) i = true)) ∧ (bt z k = true → bt (sh (fE al n n k)) i = false) := by
      show bt (if bt z k then _ &&& _ else _ : Int32) i = true ↔ _
      by_cases hx : bt z k = true
      · rw [if_pos hx, b_and, Bool.and_eq_true, hp, bt_not hi]
        exact ⟨fun h => ⟨h.1, fun _ => by simpa using h.2⟩, fun h => ⟨h.1, by simpa using h.2 hx⟩⟩
      · rw [if_neg hx, hp]
        exact ⟨fun h => ⟨h, fun q => absurd q hx⟩, fun h => h.1⟩
    rw [hz, ih]
    constructor
    · rintro ⟨⟨⟨h1, h2, h3⟩, h4⟩, h5⟩
      refine ⟨h1, fun t ht hb => ?_, fun t ht hb => ?_⟩
      · by_cases q : t = k
        · subst q; exact h4 hb
        · exact h2 t (by omega) hb
      · by_cases q : t = k
        · subst q; exact h5 hb
        · exact h3 t (by omega) hb
    · rintro ⟨h1, h2, h3⟩
      exact ⟨⟨⟨h1, fun t ht => h2 t (by omega), fun t ht => h3 t (by omega)⟩, h2 k (by omega)⟩, h3 k (by omega)⟩
theorem fMtA_b {al sh : Nat → Int32} {n : Nat} {y a0 : Int32} {i : Nat} : ∀ k, (bt (fMtA al n sh y a0 k) i = true ↔ bt a0 i = true ∨ ∃ t, t < k ∧ bt y t = true ∧ bt (sh (fE al n n t)) i = true)
  | 0 => by
    unfold fMtA
    exact ⟨Or.inl, fun h => h.elim id (fun ⟨t, ht, _⟩ => absurd ht (by omega))⟩
  | k + 1 => by
    unfold fMtA
    by_cases hy : bt y k = true
    · rw [if_pos hy, b_or, Bool.or_eq_true, fMtA_b k]
      constructor
      · rintro ((h | ⟨t, h1, h2⟩) | h)
        · exact Or.inl h
        · exact Or.inr ⟨t, by omega, h2⟩
        · exact Or.inr ⟨k, by omega, hy, h⟩
      · rintro (h | ⟨t, h1, h2, h3⟩)
        · exact Or.inl (Or.inl h)
        · by_cases q : t = k
          · subst q; exact Or.inr h3
          · exact Or.inl (Or.inr ⟨t, by omega, h2, h3⟩)
    · rw [if_neg hy, fMtA_b k]
      constructor
      · rintro (h | ⟨t, h1, h2⟩)
        · exact Or.inl h
        · exact Or.inr ⟨t, by omega, h2⟩
      · rintro (h | ⟨t, h1, h2, h3⟩)
        · exact Or.inl h
        · by_cases q : t = k
          · subst q; exact absurd h2 hy
          · exact Or.inr ⟨t, by omega, h2, h3⟩
theorem gMt_iff {μ : zMS} {n i : Nat} {x y z : Int32} (hn : n ≤ 24) : gMt μ n i x y z = true ↔ (∀ t, t < n → bt x t = true → bt (gSh μ n i) (fE (mAl μ) n n t) = true) ∧ (y = 0 ∨ ∃ t, t < n ∧ bt y t = true ∧ bt (gSh μ n i) (fE (mAl μ) n n t) = true) ∧ ∀ t, t < n → bt z t = true → bt (gSh μ n i) (fE (mAl μ) n n t) = false := by
  unfold gMt
  rw [Bool.and_eq_true, Bool.and_eq_true, decide_eq_true_iff, decide_eq_true_iff, Bool.or_eq_true, decide_eq_true_iff, Bool.not_eq_true', decide_eq_false_iff_not, and_0, and_0, and_0]
  have hE : ∀ t, t < n → fE (mAl μ) n n t < n := fun t ht => fE_lt (by omega) n t ht
  refine and_congr ?_ (and_congr (or_congr Iff.rfl ?_) ?_)
  · constructor
    · intro h t ht hb
      have := h (fE (mAl μ) n n t) (by have := hE t ht; omega) ((fEnds_b hn (Nat.le_refl _)).mpr ⟨t, ht, hb, rfl⟩)
      rw [bt_not (by have := hE t ht; omega)] at this
      simpa using this
    · intro h j hj hb
      obtain ⟨t, ht, h1, rfl⟩ := (fEnds_b hn (Nat.le_refl _)).mp hb
      rw [bt_not hj, h t ht h1]; rfl
  · constructor
    · intro h
      refine Classical.byContradiction fun q => h fun j hj hb => ?_
      obtain ⟨t, ht, h1, rfl⟩ := (fEnds_b hn (Nat.le_refl _)).mp hb
      cases hc : bt (gSh μ n i) (fE (mAl μ) n n t) with
      | false => rfl
      | true => exact absurd ⟨t, ht, h1, hc⟩ q
    · rintro ⟨t, ht, h1, h2⟩ h
      have := h (fE (mAl μ) n n t) (by have := hE t ht; omega) ((fEnds_b hn (Nat.le_refl _)).mpr ⟨t, ht, h1, rfl⟩)
      rw [h2] at this
      exact absurd this (by decide)
  · constructor
    · intro h t ht hb
      exact h (fE (mAl μ) n n t) (by have := hE t ht; omega) ((fEnds_b hn (Nat.le_refl _)).mpr ⟨t, ht, hb, rfl⟩)
    · intro h j hj hb
      obtain ⟨t, ht, h1, rfl⟩ := (fEnds_b hn (Nat.le_refl _)).mp hb
      exact h t ht h1
theorem fMt_b {σ : zTS} {μ : zMS} {n m : Nat} (hn : n ≤ 24) (hm : m ≤ 20) (hT : sTags σ = nI n) (hM : sThings σ = nI m) (ha : eqn n σ.2.1.1 (mAl μ)) (h : zWo n m (mAl μ) (mIm μ) (mSe μ) σ.2.2.2.2.2) (x y z : Int32) {i : Nat} (hi : i < 32) : bt (fMt σ x y z) i = (decide (i < m) && gMt μ n i x y z) := by
  have eT : tn (sTags σ) = n := by rw [hT]; exact tn_nI (by omega)
  have eM : ((1 : Int32) <<< (sThings σ &&& 31)) - 1 = sh1 m - 1 := by rw [hM]; rfl
  have hE : ∀ t, t < n → fE (mAl μ) n n t < n := fun t ht => fE_lt (by omega) n t ht
  apply Bool.eq_iff_iff.mpr
  unfold fMt
  rw [eT, eM, b_and, Bool.and_eq_true, fMtF_b hi, fMtA_b, Bool.and_eq_true, decide_eq_true_iff, gMt_iff hn, mask_b m (by omega) i hi, decide_eq_true_iff]
  have hW : i < m → ∀ t, t < n → bt (σ.2.2.2.2.2 (fE σ.2.1.1 n n t)) i = bt (gSh μ n i) (fE (mAl μ) n n t) := fun him t ht => by
    have := hE t ht
    rw [fE_congr (by omega) ha n t ht, h _ i (by omega) hi, decide_eq_true this, decide_eq_true him]; rfl
  have hy : bt (if y = 0 then sh1 m - 1 else 0) i = true ↔ y = 0 ∧ i < m := by
    by_cases q : y = 0
    · rw [if_pos q, mask_b m (by omega) i hi, decide_eq_true_iff]; exact ⟨fun h => ⟨q, h⟩, fun h => h.2⟩
    · rw [if_neg q, bt_zero]; exact ⟨fun h => absurd h (by decide), fun h => absurd h.1 q⟩
  rw [hy]
  constructor
  · rintro ⟨⟨h1, h2, h3⟩, h4⟩
    refine ⟨h1, fun t ht hb => by rw [← hW h1 t ht]; exact h2 t ht hb, ?_, fun t ht hb => by rw [← hW h1 t ht]; exact h3 t ht hb⟩
    rcases h4 with h4 | ⟨t, ht, hb, hc⟩
    · exact Or.inl h4.1
    · exact Or.inr ⟨t, ht, hb, by rw [← hW h1 t ht]; exact hc⟩
  · rintro ⟨h1, h2, h4, h3⟩
    refine ⟨⟨h1, fun t ht hb => by rw [hW h1 t ht]; exact h2 t ht hb, fun t ht hb => by rw [hW h1 t ht]; exact h3 t ht hb⟩, ?_⟩
    rcases h4 with h4 | ⟨t, ht, hb, hc⟩
    · exact Or.inl ⟨h4, h1⟩
    · exact Or.inr ⟨t, ht, hb, by rw [hW h1 t ht]; exact hc⟩
theorem fMt_ct {σ : zTS} {μ : zMS} {n m : Nat} (hn : n ≤ 24) (hm : m ≤ 20) (hT : sTags σ = nI n) (hM : sThings σ = nI m) (ha : eqn n σ.2.1.1 (mAl μ)) (h : zWo n m (mAl μ) (mIm μ) (mSe μ) σ.2.2.2.2.2) (x y z : Int32) : fBc (fMt σ x y z) = nI (gMm μ n x y z m) := by
  rw [fBc_count, gMm_ct]
  apply congrArg
  exact ct_cut (by omega) (fun i hi => fMt_b hn hm hT hM ha h x y z hi)
/-! the place in a set -/
theorem ct_pl {q : Nat → Bool} {i j : Nat} (hi : q i = true) (hij : i < j) : fb_ct q i + 1 ≤ fb_ct q j := by
  have h1 : fb_ct q (i + 1) = fb_ct q i + 1 := by rw [fb_ct_succ, if_pos hi]
  have h2 := fb_ct_mono q (show i + 1 ≤ j by omega)
  omega
theorem fMem_hit {X : Int32} {p : Nat} (hp : p < 2 ^ 31) {j : Nat} (hj : bt X j = true) (hc : fb_ct (bt X) j = p) : ∀ (f i : Nat), i ≤ j → j < i + f → i + f ≤ 32 → fMem X (nI p) f i (nI (fb_ct (bt X) i)) = nI j
  | 0, i, h1, h2, _ => by omega
  | f + 1, i, h1, h2, h3 => by
    have hle := fb_ct_le (bt X) i
    unfold fMem
    by_cases hb : bt X i = true
    · rw [if_pos hb]
      by_cases e : i = j
      · subst e
        rw [if_pos (by rw [hc])]
      · have := ct_pl hb (show i < j by omega)
        rw [if_neg (fun q => by
          have := nI_ne (by omega) hp q
          omega), nI_1, show fb_ct (bt X) i + 1 = fb_ct (bt X) (i + 1) by rw [fb_ct_succ, if_pos hb]]
        exact fMem_hit hp hj hc f (i + 1) (by omega) (by omega) (by omega)
    · rw [if_neg hb]
      have e : ¬ i = j := fun q => by subst q; exact hb hj
      rw [show fb_ct (bt X) i = fb_ct (bt X) (i + 1) by rw [fb_ct_succ, if_neg hb]; rfl]
      exact fMem_hit hp hj hc f (i + 1) (by omega) (by omega) (by omega)
theorem fMem_miss {X : Int32} {p : Nat} (hp : p < 2 ^ 31) : ∀ (f i : Nat), (∀ j, i ≤ j → j < i + f → bt X j = true → ¬ fb_ct (bt X) j = p) → i + f ≤ 32 → fMem X (nI p) f i (nI (fb_ct (bt X) i)) = -1
  | 0, i, _, _ => rfl
  | f + 1, i, h1, h3 => by
    have hle := fb_ct_le (bt X) i
    unfold fMem
    by_cases hb : bt X i = true
    · rw [if_pos hb, if_neg (fun q => h1 i (Nat.le_refl _) (by omega) hb (nI_ne (by omega) hp q)), nI_1, show fb_ct (bt X) i + 1 = fb_ct (bt X) (i + 1) by rw [fb_ct_succ, if_pos hb]]
      exact fMem_miss hp f (i + 1) (fun j h4 h5 => h1 j (by omega) (by omega)) (by omega)
    · rw [if_neg hb, show fb_ct (bt X) i = fb_ct (bt X) (i + 1) by rw [fb_ct_succ, if_neg hb]; rfl]
      exact fMem_miss hp f (i + 1) (fun j h4 h5 => h1 j (by omega) (by omega)) (by omega)
theorem gAt_hit {μ : zMS} {n : Nat} {x y z : Int32} {p j : Nat} (hj : gMt μ n j x y z = true) (hc : gMm μ n x y z j = p) : ∀ (f i : Nat), i ≤ j → j < i + f → gAt μ n x y z p f i = j
  | 0, i, h1, h2 => by omega
  | f + 1, i, h1, h2 => by
    unfold gAt
    by_cases e : i = j
    · subst e
      rw [if_pos (by rw [hj, hc]; simp)]
    · rw [if_neg (fun q => by
        rw [Bool.and_eq_true, decide_eq_true_iff] at q
        refine e ?_
        rw [gMm_ct] at hc q
        exact fb_ct_kth_one (p := fun i => gMt μ n i x y z) q.1 hj (q.2.trans hc.symm))]
      exact gAt_hit hj hc f (i + 1) (by omega) (by omega)
theorem fMem_at {σ : zTS} {μ : zMS} {n m : Nat} (hn : n ≤ 24) (hm : m ≤ 20) (hT : sTags σ = nI n) (hM : sThings σ = nI m) (ha : eqn n σ.2.1.1 (mAl μ)) (h : zWo n m (mAl μ) (mIm μ) (mSe μ) σ.2.2.2.2.2) (x y z : Int32) {p : Nat} (hp : p < 2 ^ 31) :
    fMem (fMt σ x y z) (nI p) 20 0 0 = if p < gMm μ n x y z m then nI (gAt μ n x y z p m 0) else -1 := by
  have hB : ∀ i, i < 32 → bt (fMt σ x y z) i = (decide (i < m) && gMt μ n i x y z) := fun i hi => fMt_b hn hm hT hM ha h x y z hi
  have hct : ∀ i, i ≤ m → fb_ct (bt (fMt σ x y z)) i = gMm μ n x y z i := fun i hi => by
    rw [gMm_ct]
    exact fb_ct_cong (fun k hk => by rw [hB k (by omega), decide_eq_true (by omega), Bool.true_and])
  by_cases q : p < gMm μ n x y z m
  · rw [if_pos q]
    rw [gMm_ct] at q
    obtain ⟨j, hj, h1, h2⟩ := fb_ct_kth q
    rw [← gMm_ct] at h2
    rw [gAt_hit h1 h2 m 0 (by omega) (by omega)]
    exact fMem_hit hp (j := j) (by rw [hB j (by omega), decide_eq_true hj, h1]; rfl) (by rw [hct j (by omega)]; exact h2) 20 0 (by omega) (by omega) (by omega)
  · rw [if_neg q]
    refine fMem_miss hp 20 0 (fun j _ hj hb hc => q ?_) (by omega)
    rw [hB j (by omega), Bool.and_eq_true, decide_eq_true_iff] at hb
    rw [hct j (by omega), gMm_ct] at hc
    have := ct_pl (q := fun i => gMt μ n i x y z) hb.2 hb.1
    rw [gMm_ct]
    omega
end S3
