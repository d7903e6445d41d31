section S10
variable {σ : zTS} {μ : zMS}
theorem fMsE_eq {k0 : Int32} {t o : Nat} {w : Int32} {e0 : Nat → Int32} : ∀ (i j : Nat), fMsE σ k0 t o w e0 i j = if j < i ∧ (if k0 = 2 then bt (sHand σ j) t else bt w j) = true then fMe k0 (sHand σ j) t o else e0 j
  | 0, j => by rw [if_neg (fun h => absurd h.1 (by omega))]; rfl
  | i + 1, j => by
    have ih := fMsE_eq (k0 := k0) (t := t) (o := o) (w := w) (e0 := e0) i j
    unfold fMsE
    by_cases q : (if k0 = 2 then bt (sHand σ i) t else bt w i) = true
    · rw [if_pos q]
      by_cases e : j = i
      · subst e
        rw [show upd (fMsE σ k0 t o w e0 j) j (fMe k0 (sHand σ j) t o) j = fMe k0 (sHand σ j) t o from if_pos rfl, if_pos ⟨by omega, q⟩]
      · rw [show upd (fMsE σ k0 t o w e0 i) i (fMe k0 (sHand σ i) t o) j = fMsE σ k0 t o w e0 i j from if_neg e, ih]
        by_cases e2 : j < i ∧ (if k0 = 2 then bt (sHand σ j) t else bt w j) = true
        · rw [if_pos e2, if_pos ⟨by omega, e2.2⟩]
        · rw [if_neg e2, if_neg (fun e3 => e2 ⟨by omega, e3.2⟩)]
    · rw [if_neg q, ih]
      by_cases e2 : j < i ∧ (if k0 = 2 then bt (sHand σ j) t else bt w j) = true
      · rw [if_pos e2, if_pos ⟨by omega, e2.2⟩]
      · rw [if_neg e2, if_neg (fun e3 => e2 ⟨by
          rcases Nat.lt_or_ge j i with a | a
          · exact a
          · rw [show j = i by omega] at e3; exact absurd e3.2 q, e3.2⟩)]
theorem ok3 {k : Int32} (h : okI k 3) : k = 0 ∨ k = 1 ∨ k = 2 := by
  obtain ⟨i, hi, rfl⟩ := (okI_n (n := 3) (by decide)).mp h
  rcases (show i = 0 ∨ i = 1 ∨ i = 2 by omega) with rfl | rfl | rfl
  · exact Or.inl rfl
  · exact Or.inr (Or.inl rfl)
  · exact Or.inr (Or.inr rfl)
/-- what the edit of many things makes of one, on both sides -/
theorem mass_E {n m q k s d t o : Nat} {k0 : Int32} (h : zRel9 σ μ n m q k s d) (hk : okI k0 3) (ht : t < n) {j : Nat} (hj : j < m) (e0 : Nat → Int32) (h0 : e0 j = mSe μ j) :
    fMsE σ k0 t o (σ.2.2.2.2.2 (fE σ.2.1.1 n n t)) e0 m j = gEdi (mAl μ) (mIm μ) n k0 t o (mSe μ j) := by
  have hn := h.2.1.1.1.2.1
  have hm := h.2.1.1.1.2.2.2.1
  have g1 : sHand σ = mSe μ := h.2.2.2.2.2.2.1.1
  have hW := h.2.2.2.2.2.2.2
  have hE := fE_lt (al := mAl μ) (n := n) (by omega) n t ht
  have hw : bt (σ.2.2.2.2.2 (fE σ.2.1.1 n n t)) j = bt (fSho (mAl μ) (mIm μ) n (mSe μ j)) (fE (mAl μ) n n t) := by
    rw [fE_congr (by omega) h.2.2.2.2.1.1 n t ht, hW _ j (by omega) (by omega), decide_eq_true hE, decide_eq_true hj, Bool.true_and, Bool.true_and]
  rw [fMsE_eq, g1, hw, h0]
  unfold gEdi fMe
  rcases ok3 hk with rfl | rfl | rfl
  · rw [if_neg (show ¬ (0 : Int32) = 2 by decide), if_neg (show ¬ (0 : Int32) = 2 by decide), if_pos rfl, if_pos rfl]
    by_cases e : bt (fSho (mAl μ) (mIm μ) n (mSe μ j)) (fE (mAl μ) n n t) = true
    · rw [if_pos ⟨hj, e⟩, if_pos e]
    · rw [if_neg (fun w => e w.2), if_neg e]
  · rw [if_neg (show ¬ (1 : Int32) = 2 by decide), if_neg (show ¬ (1 : Int32) = 2 by decide), if_neg (show ¬ (1 : Int32) = 0 by decide), if_pos rfl, if_neg (show ¬ (1 : Int32) = 0 by decide)]
    by_cases e : bt (fSho (mAl μ) (mIm μ) n (mSe μ j)) (fE (mAl μ) n n t) = true
    · rw [if_pos ⟨hj, e⟩, if_pos e]
    · rw [if_neg (fun w => e w.2), if_neg e]
  · rw [if_pos rfl, if_pos rfl, if_neg (show ¬ (2 : Int32) = 0 by decide), if_neg (show ¬ (2 : Int32) = 1 by decide)]
    by_cases e : bt (mSe μ j) t = true
    · rw [if_pos ⟨hj, e⟩, if_pos e]
    · rw [if_neg (fun w => e w.2), if_neg e]
theorem gMs_1 {n t o : Nat} {k0 : Int32} : ∀ i, (gMs (vThr μ 0) n k0 t o i).2.1 = 0
  | 0 => rfl
  | i + 1 => by
    have ih : (gMs (vThr μ 0) n k0 t o i).2.1 = 0 := gMs_1 i
    unfold gMs
    split
    · exact ih
    · show (if (gMs (vThr μ 0) n k0 t o i).1 = 0 then gBeg (gMs (vThr μ 0) n k0 t o i).2 else (gMs (vThr μ 0) n k0 t o i).2).1 = 0
      split
      · unfold gBeg
        split <;> exact ih
      · exact ih
theorem zZd_se {μ' : zMS} {k i : Nat} {E : Nat → Int32} {c : Int32} (h : zZd μ μ' k i E c) : mSe μ' i = mSe μ i := by
  obtain ⟨ch, be, rfl, -⟩ := h
  show (if i < i then E i else mSe μ i) = _
  rw [if_neg (Nat.lt_irrefl i)]
/-- the model's walk over the things -/
theorem gMs_Z {n m t o k : Nat} {k0 : Int32} (hk : mKp μ = nI k) (hk20 : k ≤ 20) (hm : m ≤ 20) : ∀ i, i ≤ m →
    (gMs μ n k0 t o i).1 = fb_ct (bt (fChg (mSe μ) (fun j => gEdi (mAl μ) (mIm μ) n k0 t o (mSe μ j)) i)) 32 ∧
    ((fChg (mSe μ) (fun j => gEdi (mAl μ) (mIm μ) n k0 t o (mSe μ j)) i = 0 ∧ (gMs μ n k0 t o i).2 = μ ∧ ∀ j, j < i → gEdi (mAl μ) (mIm μ) n k0 t o (mSe μ j) = mSe μ j) ∨
     (¬ fChg (mSe μ) (fun j => gEdi (mAl μ) (mIm μ) n k0 t o (mSe μ j)) i = 0 ∧ zZd μ (gMs μ n k0 t o i).2 k i (fun j => gEdi (mAl μ) (mIm μ) n k0 t o (mSe μ j)) (fChg (mSe μ) (fun j => gEdi (mAl μ) (mIm μ) n k0 t o (mSe μ j)) i)))
  | 0, _ => by
    refine ⟨?_, Or.inl ⟨rfl, rfl, fun j hj => absurd hj (by omega)⟩⟩
    show 0 = fb_ct (bt 0) 32
    exact (ct0.mpr rfl).symm
  | i + 1, hi => by
    obtain ⟨h1, h2⟩ := gMs_Z (n := n) (t := t) (o := o) (k0 := k0) hk hk20 hm i (by omega)
    generalize hEE : (fun j => gEdi (mAl μ) (mIm μ) n k0 t o (mSe μ j)) = E at *
    have hEj : ∀ j, gEdi (mAl μ) (mIm μ) n k0 t o (mSe μ j) = E j := fun j => by rw [← hEE]
    have hse : mSe (gMs μ n k0 t o i).2 i = mSe μ i := by
      rcases h2 with ⟨-, h3, -⟩ | ⟨-, h3⟩
      · rw [h3]
      · exact zZd_se h3
    have ef : fChg (mSe μ) E (i + 1) = if E i = mSe μ i then fChg (mSe μ) E i else fChg (mSe μ) E i ||| sh1 i := rfl
    have eg : gMs μ n k0 t o (i + 1) = if E i = mSe μ i then gMs μ n k0 t o i else ((gMs μ n k0 t o i).1 + 1, gSets (if (gMs μ n k0 t o i).1 = 0 then gBeg (gMs μ n k0 t o i).2 else (gMs μ n k0 t o i).2) i (E i)) := by
      show (if gEdi (mAl μ) (mIm μ) n k0 t o (mSe (gMs μ n k0 t o i).2 i) = mSe (gMs μ n k0 t o i).2 i then gMs μ n k0 t o i else ((gMs μ n k0 t o i).1 + 1, gSets (if (gMs μ n k0 t o i).1 = 0 then gBeg (gMs μ n k0 t o i).2 else (gMs μ n k0 t o i).2) i (gEdi (mAl μ) (mIm μ) n k0 t o (mSe (gMs μ n k0 t o i).2 i)))) = _
      rw [hse, hEj]
    rw [eg, ef]
    by_cases q : E i = mSe μ i
    · rw [if_pos q, if_pos q]
      refine ⟨h1, ?_⟩
      rcases h2 with ⟨a1, a2, a3⟩ | ⟨a1, a2⟩
      · refine Or.inl ⟨a1, a2, fun j hj => ?_⟩
        by_cases e : j = i
        · subst e; rw [hEj]; exact q
        · exact a3 j (by omega)
      · exact Or.inr ⟨a1, zZd_skip a2 q⟩
    · rw [if_neg q, if_neg q]
      have hbi : bt (fChg (mSe μ) E i) i = false := by
        rw [fChg_b i (by omega), decide_eq_false (by omega), Bool.false_and]
      have hne : ¬ fChg (mSe μ) E i ||| sh1 i = 0 := fun w => by
        have : bt (fChg (mSe μ) E i ||| sh1 i) i = true := by
          rw [b_or, bt_shn (by omega)]; simp
        rw [w, bt_zero] at this
        exact absurd this (by decide)
      have hct : fb_ct (bt (fChg (mSe μ) E i ||| sh1 i)) 32 = fb_ct (bt (fChg (mSe μ) E i)) 32 + 1 := by
        have a1 : fb_ct (bt (fChg (mSe μ) E i ||| sh1 i)) 32 = fb_ct (fun j => if j = i then true else bt (fChg (mSe μ) E i) j) 32 := fb_ct_cong fun j hj => by
          rw [b_or, bt_shn (by omega)]
          by_cases e : j = i
          · simp [e]
          · simp [e]
        have a2 := fb_ct_upd (bt (fChg (mSe μ) E i)) true (i := i) (n := 32) (by omega)
        rw [hbi, if_neg (show ¬ false = true by decide), if_pos (show true = true from rfl)] at a2
        omega
      refine ⟨by show (gMs μ n k0 t o i).1 + 1 = _; rw [hct, h1], Or.inr ⟨hne, ?_⟩⟩
      rcases h2 with ⟨a1, a2, a3⟩ | ⟨a1, a2⟩
      · have h0 : (gMs μ n k0 t o i).1 = 0 := by rw [h1, a1]; exact ct0.mpr rfl
        rw [if_pos h0, a2, a1]
        exact zZd_sets (zZd_beg hk hk20 (fun j hj => by rw [← hEj]; exact a3 j hj)) (by omega)
      · have h0 : ¬ (gMs μ n k0 t o i).1 = 0 := by rw [h1]; exact fun w => a1 (ct0.mp w)
        rw [if_neg h0]
        exact zZd_sets a2 (by omega)
theorem sim_mass {k0 x y : Int32} (h : zRel σ μ) : zSim w21 eX5_mass tX5_mass [.int k0, .int x, .int y] σ (gMass μ k0 x y) := by
  obtain ⟨n, m, q, k, s, d, h9⟩ := id h
  obtain ⟨e1, e2, e3, e4, h1, h2, h3', h4', h5', h6', h7', h8'⟩ := h9.nums
  obtain ⟨n1, n2, n3, n4, n5, n6, -⟩ := h9.nums2
  intro f
  cases hc : (fOk x (mTg μ) && fOk y (mTg μ)) with
  | false =>
    have eg : gMass μ k0 x y = (0, vThr μ 1) := by
      unfold gMass
      rw [hc, if_neg (by decide), gH_n (by decide)]
    have hb : ¬ okI x (mTg μ) ∨ ¬ okI y (mTg μ) := by
      rw [← fOk_no, ← fOk_no]; exact and_ff hc
    rw [eg]
    refine ⟨?_, fun hk => absurd ⟨h.sh f, k0, x, y, rfl, Or.inl ⟨by rw [gT_pT, e1]; exact hb, rfl⟩⟩ (hk 2)⟩
    rintro k' ⟨-, k1, x', y', e, h3⟩
    cases e
    rw [gT_pT, e1] at h3
    rcases h3 with ⟨-, rfl⟩ | ⟨a1, a2, -⟩
    · exact ⟨rfl, h⟩
    · exact absurd hb (fun w => w.elim (fun w => w a1) (fun w => w a2))
  | true =>
    have hb : okI x (mTg μ) ∧ okI y (mTg μ) := by
      rw [← fOk_ok, ← fOk_ok, ← Bool.and_eq_true]; exact hc
    have hb' : ¬ (¬ okI x (mTg μ) ∨ ¬ okI y (mTg μ)) := fun w => w.elim (fun w => w hb.1) (fun w => w hb.2)
    cases hk3 : fOk k0 3 with
    | false =>
      have eg : gMass μ k0 x y = (0, vThr μ 2) := by
        unfold gMass
        rw [hc, if_pos rfl, hk3, if_neg (by decide), gH_n (by decide)]
      rw [eg]
      refine ⟨?_, fun hk => absurd ⟨h.sh f, k0, x, y, rfl, Or.inr ⟨by rw [gT_pT, e1]; exact hb.1, by rw [gT_pT, e1]; exact hb.2, fOk_no.mp hk3, rfl⟩⟩ (hk 0)⟩
      rintro k' ⟨-, k1, x', y', e, h3⟩
      cases e
      rw [gT_pT, e1] at h3
      rcases h3 with ⟨a1, -⟩ | ⟨-, -, -, rfl⟩
      · exact absurd a1 hb'
      · exact ⟨rfl, h⟩
    | true =>
      have hkk := fOk_ok.mp hk3
      rw [h1, Bool.and_eq_true] at hc
      obtain ⟨t, ht, rfl⟩ := (fOk_n (by omega)).mp hc.1
      obtain ⟨o, ho, rfl⟩ := (fOk_n (by omega)).mp hc.2
      have eg : gMass μ k0 (nI t) (nI o) = (nI (gMs (vThr μ 0) n k0 t o m).1, (gMs (vThr μ 0) n k0 t o m).2) := by
        unfold gMass
        rw [h1, show (fOk (nI t) (nI n) && fOk (nI o) (nI n)) = true by rw [Bool.and_eq_true]; exact hc, if_pos rfl, hk3, if_pos rfl, gH_0]
        show (nI (gMs (vThr μ 0) (tn (mTg μ)) k0 (tn (nI t)) (tn (nI o)) (tn (mTh μ))).1, (gMs (vThr μ 0) (tn (mTg μ)) k0 (tn (nI t)) (tn (nI o)) (tn (mTh μ))).2) = _
        rw [n2, n4, tn_nI (by omega), tn_nI (by omega)]
      rw [eg]
      refine ⟨?_, fun hk => ⟨gMs_1 m, fun Kn hK => ⟨h.sh f, k0, nI t, nI o, rfl, ?_⟩⟩⟩
      · rintro k' ⟨-, k1, x', y', e, h3⟩
        cases e
        rw [gT_pT, e1] at h3
        rcases h3 with ⟨a1, -⟩ | ⟨-, -, a1, -⟩
        · exact absurd a1 hb'
        · exact absurd hkk a1
      · rw [gT_pT, pT_pT]
        have hse : (sK σ).1 = mSe μ := h9.2.2.2.2.2.2.1.1
        have eT : fMasS σ k0 (nI t) (nI o) = wH σ ((sK σ).1, fMsE σ k0 t o (σ.2.2.2.2.2 (fE σ.2.1.1 n n t)) (sK (fStart σ)).2.1 m, (sK σ).2.2) := by
          unfold fMasS
          rw [n1, n3, tn_nI (by omega), tn_nI (by omega)]
        have hE : ∀ j, j < m → fMsE σ k0 t o (σ.2.2.2.2.2 (fE σ.2.1.1 n n t)) (sK (fStart σ)).2.1 m j = gEdi (mAl μ) (mIm μ) n k0 t o (mSe μ j) := fun j hj => mass_E h9 hkk ht hj _ (by
          show (if j < tn (sThings σ) then (sK σ).1 j else (sK σ).2.1 j) = _
          rw [n3, if_pos hj, hse])
        have eC : fChT (fMasS σ k0 (nI t) (nI o)) = fChg (mSe μ) (fun j => gEdi (mAl μ) (mIm μ) n k0 t o (mSe μ j)) m := by
          rw [eT]
          show fChg (sK σ).1 _ (tn (sThings σ)) = _
          rw [n3, hse]
          exact fChg_cg m hE
        obtain ⟨c1, c2⟩ := gMs_Z (μ := vThr μ 0) (n := n) (m := m) (t := t) (o := o) (k0 := k0) (k := k) h7' h8' h4' m (Nat.le_refl m)
        have hrel : zRel (fFin (fMasS σ k0 (nI t) (nI o))) (gMs (vThr μ 0) n k0 t o m).2 := by
          unfold fFin
          rw [eC]
          rcases c2 with ⟨a1, a2, -⟩ | ⟨a1, a2⟩
          · have a1 : fChg (mSe μ) (fun j => gEdi (mAl μ) (mIm μ) n k0 t o (mSe μ j)) m = 0 := a1
            rw [if_pos a1, a2, eT]
            exact rel_noed h9
          · have a1 : ¬ fChg (mSe μ) (fun j => gEdi (mAl μ) (mIm μ) n k0 t o (mSe μ j)) m = 0 := a1
            rw [if_neg a1, eT]
            refine rel_edit (μ := vThr μ 0) (E := fun j => gEdi (mAl μ) (mIm μ) n k0 t o (mSe μ j)) h9 hE (fun j hj b hb => ?_) a2
            have hb : bt (gEdi (mAl μ) (mIm μ) n k0 t o (mSe μ j)) b = true := hb
            have g3 := h9.2.2.2.2.2.2.1.2.2.1 j b
            have hor : ∀ z : Int32, (bt z b = true → b < n) → bt (z ||| sh1 o) b = true → b < n := fun z hz hzb => by
              rw [b_or, Bool.or_eq_true, bt_shn (by omega)] at hzb
              rcases hzb with hzb | hzb
              · exact hz hzb
              · have := of_decide_eq_true hzb
                omega
            have han : ∀ (z w : Int32), (bt z b = true → b < n) → bt (z &&& w) b = true → b < n := fun z w hz hzb => by
              rw [b_and, Bool.and_eq_true] at hzb
              exact hz hzb.1
            unfold gEdi at hb
            split at hb
            · split at hb
              · exact hor _ (han _ _ g3) hb
              · exact g3 hb
            · split at hb
              · split at hb
                · exact hor _ g3 hb
                · exact han _ _ g3 hb
              · exact g3 hb
        have h8 := hK _ hrel
        rw [eC, fBc_count]
        rw [show (gMs (vThr μ 0) n k0 t o m).1 = fb_ct (bt (fChg (mSe μ) (fun j => gEdi (mAl μ) (mIm μ) n k0 t o (mSe μ j)) m)) 32 from c1] at h8
        exact h8
theorem sim_undo (h : zRel σ μ) : zSim w11 eX5_undo tX5_undo [] σ (gUndo μ) := by
  obtain ⟨n, m, q, k, s, d, h9⟩ := id h
  obtain ⟨e1, e2, e3, e4, h1, h2, h3', h4', h5', h6', h7', h8'⟩ := h9.nums
  obtain ⟨n1, n2, n3, n4, n5, n6, n7, n8, n9⟩ := h9.nums2
  obtain ⟨hI, hM, hN, hU, hR, hQ, hH, hW⟩ := id h9
  intro f
  cases k with
  | zero =>
    have eg : gUndo μ = (0, vThr μ 1) := by
      unfold gUndo
      rw [if_pos (show mKp μ = 0 from h7'), gH_n (by decide)]
    rw [eg]
    refine ⟨?_, fun hk => absurd ⟨h.sh f, rfl, rfl, by rw [gT_pT, e4]; exact h7'⟩ (hk 1)⟩
    rintro k' ⟨-, -, -, -⟩
    exact ⟨rfl, h⟩
  | succ k =>
    have hne : ¬ mKp μ = 0 := fun w => by
      rw [h7'] at w
      have := nI_ne (b := 0) (by omega) (by omega) w
      omega
    have hs := hI.2.2.2.2.2.2.2.1.2.2.2.2.2
    obtain ⟨g1, g2, g3, g4⟩ := hH
    obtain ⟨y1, y2⟩ := g4 k (by omega)
    have hp : fPrev s = zsl s (k + 1) k := by
      unfold fPrev zsl
      split <;> omega
    have eg : gUndo μ = (nI (fb_ct (bt (mCh μ k)) 32), vKp (vSe (vThr μ 0) (gUnS μ k 20)) (nI k) (mCh μ) (mBe μ)) := by
      unfold gUndo
      rw [if_neg hne, gH_0]
      show (nI (fb_ct (bt (mCh μ (tn (mKp μ) - 1))) 32), vKp (vSe (vThr μ 0) (gUnS (vThr μ 0) (tn (mKp μ) - 1) 20)) (mKp μ - 1) (mCh μ) (mBe μ)) = _
      rw [n7, h7', nI_pred]
      rfl
    rw [eg]
    refine ⟨?_, fun hk => ⟨rfl, fun Kn hK => ⟨h.sh f, rfl, ?_⟩⟩⟩
    · rintro k' ⟨-, -, -, h3⟩
      rw [gT_pT, e4] at h3
      exact absurd h3 hne
    · rw [gT_pT, pT_pT, n9, hp, y1, fBc_count]
      refine hK _ ?_
      have eS : (fun j => if j < m ∧ bt ((sK σ).2.2.1 (fPrev s)) j = true then (sK σ).2.2.2.1 (fPrev s * 20 + j) else (sK σ).1 j) = gUnS μ k 20 := funext fun j => by
        unfold gUnS
        rw [hp, y1, g1]
        by_cases q1 : bt (mCh μ k) j = true
        · obtain ⟨w1, w2, -⟩ := y2 j q1
          rw [if_pos ⟨w1, q1⟩, if_pos (by omega), if_pos q1, w2]
        · rw [if_neg (fun w => q1 w.2), if_neg q1]
          split <;> rfl
      have eU : fUnd σ = wV (wH σ (fBack (sK σ) m s (k + 1))) (fSh σ.2.1.1 σ.2.1.2.2.2.1 n (gUnS μ k 20) σ.2.2.2.2.2 m) := by
        unfold fUnd
        rw [n3, n9, n8]
        show wV _ (fSh σ.2.1.1 σ.2.1.2.2.2.1 (tn (sTags σ)) (fun j => if j < m ∧ bt ((sK σ).2.2.1 (fPrev s)) j = true then (sK σ).2.2.2.1 (fPrev s * 20 + j) else (sK σ).1 j) σ.2.2.2.2.2 (tn (sThings σ))) = _
        rw [n1, n3, eS]
      have hM2 : mIn2 (vKp (vSe (vThr μ 0) (gUnS μ k 20)) (nI k) (mCh μ) (mBe μ)) n m q k d := by
        obtain ⟨⟨⟨h1, h2, h3, h4, h5, h6, h7, h8, h9⟩, h10⟩, h11⟩ := hM
        exact ⟨⟨⟨h1, h2, h3, h4, h5, h6, rfl, by omega, h9⟩, h10⟩, h11⟩
      rw [eU]
      have hps : fPrev s < 20 := by unfold fPrev; split <;> omega
      refine ⟨n, m, q, k, fPrev s, d, mkRel9 hM2 hN hU hR hI.2.2.2.2.2.2.1 hQ ⟨eS, fun j hj => ?_, fun i b hb => ?_, fun a ha => ?_⟩ ⟨hI.2.2.2.2.2.2.2.1.1, h4', rfl, by omega, rfl, hps⟩ (zWo_ref h2 h4' hR (zWo_0 hW))⟩
      · show gUnS μ k 20 j = 0
        unfold gUnS
        by_cases q1 : bt (mCh μ k) j = true
        · have := (y2 j q1).1
          omega
        · rw [if_neg q1]
          split <;> exact g2 j hj
      · have hb : bt (gUnS μ k 20 i) b = true := hb
        unfold gUnS at hb
        split at hb
        · split at hb
          · next q1 => exact (y2 i q1).2.2 b hb
          · exact g3 i b hb
        · exact g3 i b hb
      · have hz : zsl (fPrev s) k a = zsl s (k + 1) a := by
          unfold zsl fPrev
          split <;> omega
        rw [hz]
        exact g4 a (by omega)
end S10
