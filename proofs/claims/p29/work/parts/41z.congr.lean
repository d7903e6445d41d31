/-! ===== what follows from the rules hangs on the first n alone ===== -/
def eqn (n : Nat) (f g : Nat → Int32) : Prop := ∀ j, j < n → f j = g j
theorem fE_congr {al al' : Nat → Int32} {n : Nat} (hn : n < 2 ^ 31) (h : eqn n al al') : ∀ (k t : Nat), t < n → fE al n k t = fE al' n k t
  | 0, t, _ => rfl
  | k + 1, t, ht => by
    rw [fE_s, fE_s, ← h t ht]
    split
    · rfl
    · next hc =>
      have h1 : ¬ al t < 0 := fun q => hc (Or.inl q)
      have h2 : ¬ nI n ≤ al t := fun q => hc (Or.inr q)
      obtain ⟨j, hj, e⟩ := nI_of h1
      rw [e] at h2 ⊢
      rw [nI_clamp hj]
      exact fE_congr hn h k j (nI_nle_lt hj hn h2)
theorem fEnds_congr {al al' : Nat → Int32} {n : Nat} (hn : n < 2 ^ 31) (h : eqn n al al') (x : Int32) : ∀ i, i ≤ n → fEnds al n x i = fEnds al' n x i
  | 0, _ => rfl
  | i + 1, hi => by
    unfold fEnds
    rw [fEnds_congr hn h x i (by omega), fE_congr hn h n i (by omega)]
theorem fNx_congr {al al' im im' : Nat → Int32} {n : Nat} (hn : n < 2 ^ 31) (h : eqn n al al') (hm : eqn n im im') (nx nx' : Nat → Int32) : ∀ i, i ≤ n → eqn n (fNx al im n nx i) (fNx al' im' n nx' i)
  | 0, _ => fun j hj => by unfold fNx; simp [hj]
  | i + 1, hi => fun j hj => by
    have ih := fNx_congr hn h hm nx nx' i (by omega)
    have hE := fE_lt (al := al) hn n i (by omega)
    rw [fNx_s, fNx_s, ← hm i (by omega), ← fE_congr hn h n i (by omega), ← fEnds_congr hn h (im i) n (Nat.le_refl _)]
    split
    · exact ih j hj
    · unfold upd
      split
      · rw [ih _ hE]
      · exact ih j hj
theorem fRo_s (mid : Nat) (re : Nat → Int32) (i : Nat) : fRo mid re (i + 1) = if bt (fRo mid re i i) mid then upd (fRo mid re i) i (fRo mid re i i ||| fRo mid re i mid) else fRo mid re i := rfl
theorem fRo_congr {n mid : Nat} {re re' : Nat → Int32} (hmid : mid < n) (h : eqn n re re') : ∀ i, i ≤ n → eqn n (fRo mid re i) (fRo mid re' i)
  | 0, _ => h
  | i + 1, hi => fun j hj => by
    have ih := fRo_congr hmid h i (by omega)
    rw [fRo_s, fRo_s, ← ih i (by omega), ← ih mid hmid]
    split
    · unfold upd
      split
      · rfl
      · exact ih j hj
    · exact ih j hj
theorem fRe_congr {n : Nat} {nx nx' : Nat → Int32} (h : eqn n nx nx') (re re' : Nat → Int32) : ∀ i, i ≤ n → eqn n (fRe n nx re i) (fRe n nx' re' i)
  | 0, _ => fun j hj => by unfold fRe; simp [hj, h j hj]
  | i + 1, hi => by
    have ih := fRe_congr h re re' i (by omega)
    rw [fRe_s, fRe_s, ← h i (by omega)]
    split
    · exact ih
    · exact fRo_congr (by omega) ih n (Nat.le_refl _)
def eqR (n : Nat) (ρ ρ' : zRS) : Prop := eqn n ρ.1 ρ'.1 ∧ eqn n ρ.2.1 ρ'.2.1
theorem fWork_al {ρ : zRS} {n : Nat} : (fWork ρ n).1 = ρ.1 ∧ (fWork ρ n).2.1 = ρ.2.1 := ⟨rfl, rfl⟩
theorem fWork_nx {ρ ρ' : zRS} {n : Nat} (hn : n < 2 ^ 31) (h : eqR n ρ ρ') : eqn n (fWork ρ n).2.2.1 (fWork ρ' n).2.2.1 := fNx_congr hn h.1 h.2 _ _ n (Nat.le_refl _)
theorem fWork_re {ρ ρ' : zRS} {n : Nat} (hn : n < 2 ^ 31) (h : eqR n ρ ρ') : eqn n (fWork ρ n).2.2.2.1 (fWork ρ' n).2.2.2.1 := fRe_congr (fWork_nx hn h) _ _ n (Nat.le_refl _)
theorem eqn_upd {n t : Nat} {f g : Nat → Int32} {x y : Int32} (h : eqn n f g) (hxy : t < n → x = y) : eqn n (upd f t x) (upd g t y) := fun j hj => by
  unfold upd
  split
  · next e => exact hxy (by omega)
  · exact h j hj
theorem fCarry_eqR {ρ ρ' : zRS} {n : Nat} (h : eqR n ρ ρ') (k : Int32) (t o : Nat) : eqR n (fCarry ρ k t o) (fCarry ρ' k t o) := by
  unfold fCarry
  split
  · exact ⟨eqn_upd h.1 (fun _ => rfl), h.2⟩
  · split
    · exact ⟨h.1, eqn_upd h.2 (fun ht => by rw [h.2 t ht])⟩
    · split
      · exact ⟨eqn_upd h.1 (fun _ => rfl), h.2⟩
      · exact ⟨h.1, eqn_upd h.2 (fun ht => by rw [h.2 t ht])⟩
theorem fAllow_congr {ρ ρ' : zRS} {n : Nat} (hn : n < 2 ^ 31) (h : eqR n ρ ρ') (hre : eqn n ρ.2.2.2.1 ρ'.2.2.2.1) (k : Int32) {t o : Nat} (ht : t < n) (ho : o < n) : fAllow ρ n k t o = fAllow ρ' n k t o := by
  have hE := fE_lt (al := ρ.1) hn n o ho
  unfold fAllow fAlias
  rw [← fE_congr hn h.1 n o ho, ← fE_congr hn h.1 n t ht, ← h.1 t ht, ← h.2 t ht, ← hre t ht, ← hre _ hE]
theorem fCop_eqR (ρ τ : zRS) (n : Nat) : eqR n (fCop ρ τ n) ρ := ⟨fun j hj => by unfold fCop; simp [hj], fun j hj => by unfold fCop; simp [hj]⟩
theorem eqR_tr {n : Nat} {a b c : zRS} (h1 : eqR n a b) (h2 : eqR n b c) : eqR n a c := ⟨fun j hj => (h1.1 j hj).trans (h2.1 j hj), fun j hj => (h1.2 j hj).trans (h2.2 j hj)⟩
theorem eqR_sy {n : Nat} {a b : zRS} (h : eqR n a b) : eqR n b a := ⟨fun j hj => (h.1 j hj).symm, fun j hj => (h.2 j hj).symm⟩
theorem fAlw_beh {σ : zTS} {n m q k s d : Nat} (hI : zInv σ n m q k s d) {ρ : zRS} (h : eqR n ρ σ.2.1) {i j : Nat} (hj : j < q) : fAlw (fBeh σ i j) n σ.2.2.2.1 j = fAlw (fWork (fCarry ρ (qK σ.2.2.2.1 i) (qT σ.2.2.2.1 i) (qO σ.2.2.2.1 i)) n) n σ.2.2.2.1 j := by
  obtain ⟨hn, hn24, hd, hd8, hch, hlen, hR, hH, hq, hq40, hreq⟩ := hI
  have en : tn (sTags σ) = n := by rw [show sTags σ = nI n from hn]; exact nI_clamp (by omega)
  obtain ⟨-, -, -, -, ht, ho⟩ := zQ_of hreq hn24 hq40 hj
  have e1 : eqR n (fCarry (fCop σ.2.1 σ.2.2.1 n) (qK σ.2.2.2.1 i) (qT σ.2.2.2.1 i) (qO σ.2.2.2.1 i)) (fCarry ρ (qK σ.2.2.2.1 i) (qT σ.2.2.2.1 i) (qO σ.2.2.2.1 i)) := fCarry_eqR (eqR_tr (fCop_eqR _ _ n) (eqR_sy h)) _ _ _
  unfold fAlw fBeh
  rw [en]
  exact fAllow_congr (ρ := fWork _ n) (ρ' := fWork _ n) (by omega) ⟨e1.1, e1.2⟩ (fWork_re (by omega) e1) _ ht ho
theorem fBeh_tau {σ : zTS} {n m q k s d : Nat} (hI : zInv σ n m q k s d) (τ : zRS) (i j : Nat) (hj : j < q) : fAlw (fBeh (wU σ τ) i j) n σ.2.2.2.1 j = fAlw (fBeh σ i j) n σ.2.2.2.1 j := by
  have h1 := fAlw_beh (σ := wU σ τ) hI (ρ := σ.2.1) ⟨fun _ _ => rfl, fun _ _ => rfl⟩ (i := i) hj
  have h2 := fAlw_beh (σ := σ) hI (ρ := σ.2.1) ⟨fun _ _ => rfl, fun _ _ => rfl⟩ (i := i) hj
  exact h1.trans h2.symm
