section S7
variable {σ : zTS} {μ : zMS}
theorem fAll_iff {p : Nat → Bool} : ∀ (f k : Nat), fAll p f k = true ↔ ∀ i, k ≤ i → i < k + f → p i = true
  | 0, k => ⟨fun _ i h1 h2 => by omega, fun _ => rfl⟩
  | f + 1, k => by
    show (p k && fAll p f (k + 1)) = true ↔ _
    rw [Bool.and_eq_true, fAll_iff f (k + 1)]
    constructor
    · rintro ⟨h1, h2⟩ i h3 h4
      by_cases q : i = k
      · subst q; exact h1
      · exact h2 i (by omega) (by omega)
    · intro h
      exact ⟨h k (Nat.le_refl _) (by omega), fun i h1 h2 => h i (by omega) (by omega)⟩
theorem fIsD_iff {le ln dr : Nat → Int32} {d t : Nat} : fIsD le ln dr d t = true ↔ ln t = nI d ∧ ∀ i, i < d → fPl (le (t * 8 + i)) = fPl (dr i) := by
  unfold fIsD
  rw [Bool.and_eq_true, decide_eq_true_iff, fAll_iff]
  constructor
  · rintro ⟨h1, h2⟩
    exact ⟨h1, fun i hi => of_decide_eq_true (h2 i (Nat.zero_le _) (by omega))⟩
  · rintro ⟨h1, h2⟩
    exact ⟨h1, fun i _ hi => decide_eq_true (h2 i (by omega))⟩
theorem gFd_no {d : Nat} : ∀ j, (∀ t, t < j → fIsD (mLe μ) (mLn μ) (mDr μ) d t = false) → gFd μ d j = -1
  | 0, _ => rfl
  | j + 1, h => by
    unfold gFd
    rw [h j (by omega), if_neg (by decide)]
    exact gFd_no j (fun t ht => h t (by omega))
theorem gFd_hit {d t : Nat} (ht : fIsD (mLe μ) (mLn μ) (mDr μ) d t = true) : ∀ j, t < j → (∀ t', t' < j → fIsD (mLe μ) (mLn μ) (mDr μ) d t' = true → t' = t) → gFd μ d j = nI t
  | 0, h, _ => by omega
  | j + 1, h, hu => by
    unfold gFd
    by_cases q : fIsD (mLe μ) (mLn μ) (mDr μ) d j = true
    · rw [if_pos q, hu j (by omega) q]
    · rw [if_neg q]
      have : ¬ t = j := fun e => by subst e; exact q ht
      exact gFd_hit ht j (by omega) (fun t' h' => hu t' (by omega))
/-- the name is there at one tag, or nowhere: on both sides -/
theorem find_two {n d : Nat} (hn : n ≤ 24) (hd : d ≤ 8) (hU : zUn n (mLe μ) (mLn μ)) :
    (fFind (fIsD (mLe μ) (mLn μ) (mDr μ) d) n n 0 = none ∧ gFd μ d n = -1 ∧ ∀ t, t < n → fIsD (mLe μ) (mLn μ) (mDr μ) d t = false) ∨ ∃ t, t < n ∧ fFind (fIsD (mLe μ) (mLn μ) (mDr μ) d) n n 0 = some t ∧ gFd μ d n = nI t := by
  by_cases h : ∃ t, t < n ∧ fIsD (mLe μ) (mLn μ) (mDr μ) d t = true
  · obtain ⟨t, ht, h1⟩ := h
    have hu : ∀ t', t' < n → fIsD (mLe μ) (mLn μ) (mDr μ) d t' = true → t' = t := by
      intro t' ht' h2
      refine Classical.byContradiction fun hne => ?_
      rw [fIsD_iff] at h1 h2
      obtain ⟨i, hi, h3⟩ := hU t' t ht' ht hne d hd h2.1 h1.1
      exact h3 ((h2.2 i hi).trans (h1.2 i hi).symm)
    refine Or.inr ⟨t, ht, fFind_low ht h1 (fun j hj => ?_) n 0 (by omega) (by omega), gFd_hit h1 n ht hu⟩
    cases hc : fIsD (mLe μ) (mLn μ) (mDr μ) d j with
    | false => rfl
    | true => have := hu j (by omega) hc; omega
  · have h0 : ∀ t, t < n → fIsD (mLe μ) (mLn μ) (mDr μ) d t = false := fun t ht => by
      cases hc : fIsD (mLe μ) (mLn μ) (mDr μ) d t with
      | false => rfl
      | true => exact absurd ⟨t, ht, hc⟩ h
    exact Or.inl ⟨fFind_no h0 n 0, gFd_no n h0, h0⟩
theorem zUn_more {n d : Nat} {le ln dr le' : Nat → Int32} (hn : n < 24) (hd : d ≤ 8) (hU : zUn n le ln) (h1 : ∀ j, j < n * 8 → le' j = le j) (h2 : ∀ i, i < d → le' (n * 8 + i) = dr i) (h0 : ∀ t, t < n → fIsD le ln dr d t = false) : zUn (n + 1) le' (upd ln n (nI d)) := by
  have key : ∀ t, t < n → ∀ e, e ≤ 8 → ln t = nI e → nI d = nI e → ∃ i, i < e ∧ ¬ fPl (le' (t * 8 + i)) = fPl (le' (n * 8 + i)) := by
    intro t ht e he h3 h4
    have : d = e := nI_ne (by omega) (by omega) h4
    subst this
    refine Classical.byContradiction fun hc => ?_
    have h5 : fIsD le ln dr d t = true := fIsD_iff.mpr ⟨h3, fun i hi => by
      refine Classical.byContradiction fun hne => hc ⟨i, hi, ?_⟩
      rw [h1 _ (by omega), h2 i hi]
      exact hne⟩
    rw [h0 t ht] at h5
    exact absurd h5 (by decide)
  intro t1 t2 ht1 ht2 hne e he e1 e2
  by_cases q1 : t1 = n
  · subst q1
    have q2 : ¬ t2 = t1 := fun q => hne q.symm
    rw [show upd ln t1 (nI d) t1 = nI d from if_pos rfl] at e1
    rw [show upd ln t1 (nI d) t2 = ln t2 from if_neg q2] at e2
    obtain ⟨i, hi, h3⟩ := key t2 (by omega) e he e2 e1
    exact ⟨i, hi, fun h => h3 h.symm⟩
  · rw [show upd ln n (nI d) t1 = ln t1 from if_neg q1] at e1
    by_cases q2 : t2 = n
    · subst q2
      rw [show upd ln t2 (nI d) t2 = nI d from if_pos rfl] at e2
      exact key t1 (by omega) e he e1 e2
    · rw [show upd ln n (nI d) t2 = ln t2 from if_neg q2] at e2
      obtain ⟨i, hi, h3⟩ := hU t1 t2 (by omega) (by omega) hne e he e1 e2
      refine ⟨i, hi, ?_⟩
      rw [h1 _ (by omega), h1 _ (by omega)]
      exact h3
theorem sim_enter (h : zRel σ μ) : zSim w11 eX5_enter tX5_enter [] σ (gEnter μ) := by
  obtain ⟨n, m, q, k, s, d, h9⟩ := id h
  obtain ⟨e1, e2, e3, e4, h1, h2, h3', h4', -⟩ := h9.nums
  obtain ⟨n1, n2, n3, n4, -⟩ := h9.nums2
  obtain ⟨hI, hM, hN, hU, hR, hQ, hH, hW⟩ := h9
  have hdd := hM.1.1.2.2.2.2.2.2.2.2.1
  have hd8 := hM.1.1.2.2.2.2.2.2.2.2.2.1
  have eN : σ.1 = (mLe μ, mLn μ, mDr μ, mTg μ, mDl μ) := hN
  have hd : σ.1.2.2.2.2 = mDl μ := by rw [hN]
  have nd : tn (mDl μ) = d := by rw [hdd]; exact tn_nI (by omega)
  have eF : fEntF σ = fFind (fIsD (mLe μ) (mLn μ) (mDr μ) d) n n 0 := by
    unfold fEntF
    rw [n1, hN]
    show fFind (fIsD (mLe μ) (mLn μ) (mDr μ) (tn (mDl μ))) n n 0 = _
    rw [nd]
  have two := find_two (μ := μ) (n := n) (d := d) h2 hd8 hU
  by_cases e0 : mDl μ = 0
  · have eg : gEnter μ = (0, vThr μ 1) := by
      unfold gEnter
      rw [if_pos e0, gH_n (by decide)]
    intro f
    rw [eg]
    refine ⟨fun k' hk' => ?_, fun hk => absurd ⟨h.sh f, rfl, rfl, Or.inl (by rw [gT_pT, hd]; exact e0)⟩ (hk 1)⟩
    exact ⟨rfl, h⟩
  · rcases two with ⟨t1, t2, t3⟩ | ⟨t, ht, t1, t2⟩
    · by_cases e5 : n = 24
      · have eg : gEnter μ = (0, vThr μ 1) := by
          unfold gEnter
          rw [if_neg e0, nd, n2, t2, if_pos rfl, if_pos (show mTg μ = 24 by rw [h1, e5]; rfl), gH_n (by decide)]
        intro f
        rw [eg]
        refine ⟨fun k' hk' => ?_, fun hk => absurd ⟨h.sh f, rfl, rfl, Or.inr ⟨by rw [gT_pT, eF]; exact t1, by rw [gT_pT, e1, h1, e5]; decide⟩⟩ (hk 1)⟩
        exact ⟨rfl, h⟩
      · have hn : n < 24 := by omega
        have hne : ¬ mTg μ = 24 := fun q9 => by
          rw [h1] at q9
          have := nI_ne (b := 24) (by omega) (by omega) q9
          omega
        have eg : gEnter μ = (mTg μ, vNew (vThr μ 0) 0 (mTg μ + 1) (gEnL μ d) (upd (mLn μ) n (mDl μ))) := by
          unfold gEnter
          rw [if_neg e0, nd, n2, t2, if_pos rfl, if_neg hne, gH_0]
          show (if gFd (vThr μ 0) (tn (mDl μ)) (tn (mTg μ)) = -1 then _ else _ : zP) = _
          rw [gFd_thr, nd, n2, t2, if_pos rfl]
          show (mTg μ, vNew (vThr μ 0) 0 (mTg μ + 1) (gEnL (vThr μ 0) (tn (mDl μ))) (upd (mLn μ) (tn (mTg μ)) (mDl μ))) = _
          rw [nd, n2]
          rfl
        have hok := mOk_enter h.ok
        rw [eg] at hok ⊢
        intro f
        refine ⟨?_, fun hk => ⟨rfl, fun Kn hK => ⟨h.sh f, rfl, ?_⟩⟩⟩
        · rintro k' ⟨-, -, rfl, h3⟩
          rw [gT_pT, hd, eF, e1, h1] at h3
          rcases h3 with h3 | ⟨-, h3⟩
          · exact absurd h3 e0
          · have := (nI_leI (a := 24) (by omega) (by omega)).mp h3
            omega
        · have ef : fEnt σ = (nI n, fNewT σ) := by
            unfold fEnt
            rw [eF, t1, n1]
          rw [gT_pT, pT_pT, ef]
          show Kn (some (.int (nI n))) (pT (fNewT σ) f)
          rw [← h1]
          refine hK _ ?_
          have hal : mAl μ n = -1 := hM.2.1 n (Nat.le_refl _) hn
          have eT : fNewT σ = ((((fun j => if n * 8 ≤ j ∧ j < n * 8 + d then mDr μ (j - n * 8) else mLe μ j), upd (mLn μ) n (mDl μ), mDr μ, nI (n + 1), 0) : zNS), fWork (upd σ.2.1.1 n (-1), σ.2.1.2.1, σ.2.1.2.2.1, σ.2.1.2.2.2.1, nI (n + 1)) (n + 1), σ.2.2) := by
            unfold fNewT
            rw [n1, hN]
            show ((((fun j => if n * 8 ≤ j ∧ j < n * 8 + tn (mDl μ) then mDr μ (j - n * 8) else mLe μ j), upd (mLn μ) n (mDl μ), mDr μ, nI (n + 1), 0) : zNS), _) = _
            rw [nd]
          have hac := hM.1.1.2.2.2.2.2.2.2.2.2.2.2.2.2.1
          obtain ⟨g1, g2, g3, g4⟩ := hH
          rw [eT]
          refine mkRel (n := n + 1) (m := m) (q := q) (k := k) (s := s) (d := 0) (mOk_at hok (by show mTg μ + 1 = nI (n + 1); rw [h1, nI_1]) hn hM.1.1.2.2.1 hM.1.1.2.2.2.1 hM.1.1.2.2.2.2.1 hM.1.1.2.2.2.2.2.1 hM.1.1.2.2.2.2.2.2.1 hM.1.1.2.2.2.2.2.2.2.1 rfl (by omega)) ?_ ?_ (zRl_grow hn hac hal hR (nI (n + 1))) ⟨rfl, hn⟩ hQ ⟨g1, g2, fun i b hb => by have := g3 i b hb; omega, fun i hi => ⟨(g4 i hi).1, fun j hj => ⟨((g4 i hi).2 j hj).1, ((g4 i hi).2 j hj).2.1, fun b hb => by have := ((g4 i hi).2 j hj).2.2 b hb; omega⟩⟩⟩ hI.2.2.2.2.2.2.2.1 (zWo_grow hn hac hR.2.2.2.2 g3 hW)
          · show (_, _, _, _, _) = ((gEnL μ d), (upd (mLn μ) n (mDl μ)), mDr μ, (mTg μ + 1), (0 : Int32))
            rw [h1, nI_1]
            unfold gEnL
            rw [n2]
          · show zUn (n + 1) (gEnL μ d) (upd (mLn μ) n (mDl μ))
            rw [hdd]
            refine zUn_more hn hd8 hU (fun j hj => ?_) (fun i hi => ?_) t3
            · unfold gEnL
              rw [n2, if_neg (by omega)]
            · unfold gEnL
              rw [n2, if_pos (by omega), show n * 8 + i - n * 8 = i by omega]
    · have hne : ¬ nI t = -1 := nI_ne1 (by omega)
      have eg : gEnter μ = (nI t, vDr (vThr μ 0) (mDr μ) 0) := by
        unfold gEnter
        rw [if_neg e0, nd, n2, t2, if_neg hne, gH_0]
        show (if gFd (vThr μ 0) (tn (mDl μ)) (tn (mTg μ)) = -1 then _ else _ : zP) = _
        rw [gFd_thr, nd, n2, t2, if_neg hne]
        show (gFd (vThr μ 0) (tn (mDl μ)) (tn (mTg μ)), vDr (vThr μ 0) (mDr μ) 0) = _
        rw [gFd_thr, nd, n2, t2]
      have hok := mOk_enter h.ok
      rw [eg] at hok ⊢
      intro f
      refine ⟨?_, fun hk => ⟨rfl, fun Kn hK => ⟨h.sh f, rfl, ?_⟩⟩⟩
      · rintro k' ⟨-, -, rfl, h3⟩
        rw [gT_pT, hd, eF, t1] at h3
        rcases h3 with h3 | ⟨h3, -⟩
        · exact absurd h3 e0
        · cases h3
      · have ef : fEnt σ = (nI t, wN σ (σ.1.1, σ.1.2.1, σ.1.2.2.1, σ.1.2.2.2.1, 0)) := by
          unfold fEnt
          rw [eF, t1]
        rw [gT_pT, pT_pT, ef]
        refine hK _ ?_
        refine mkRel (n := n) (m := m) (q := q) (k := k) (s := s) (d := 0) (mOk_at hok hM.1.1.1 hM.1.1.2.1 hM.1.1.2.2.1 hM.1.1.2.2.2.1 hM.1.1.2.2.2.2.1 hM.1.1.2.2.2.2.2.1 hM.1.1.2.2.2.2.2.2.1 hM.1.1.2.2.2.2.2.2.2.1 rfl (by omega)) ?_ hU hR hI.2.2.2.2.2.2.1 hQ hH hI.2.2.2.2.2.2.2.1 hW
        show (σ.1.1, σ.1.2.1, σ.1.2.2.1, σ.1.2.2.2.1, (0 : Int32)) = _
        rw [hN]
        rfl
end S7
