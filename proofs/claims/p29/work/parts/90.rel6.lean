section S9
variable {σ : zTS} {μ : zMS}
/-! edits -/
theorem fChg_b {se ed : Nat → Int32} {j : Nat} : ∀ i, i ≤ 32 → bt (fChg se ed i) j = (decide (j < i) && !decide (ed j = se j))
  | 0, _ => by unfold fChg; rw [bt_zero]; simp
  | i + 1, hi => by
    have ih := fChg_b (se := se) (ed := ed) (j := j) i (by omega)
    unfold fChg
    by_cases q : ed i = se i
    · rw [if_pos q, ih]
      by_cases e : j = i
      · subst e; simp [q]
      · by_cases e2 : j < i
        · simp [e2, show j < i + 1 by omega]
        · simp [e2, show ¬ j < i + 1 by omega]
    · rw [if_neg q, b_or, ih, bt_shn (by omega)]
      by_cases e : j = i
      · subst e; simp [q]
      · by_cases e2 : j < i
        · simp [e, e2, show j < i + 1 by omega]
        · simp [e, e2, show ¬ j < i + 1 by omega]
theorem fChg_cg {se ed ed' : Nat → Int32} : ∀ i, (∀ j, j < i → ed j = ed' j) → fChg se ed i = fChg se ed' i
  | 0, _ => rfl
  | i + 1, h => by
    unfold fChg
    rw [fChg_cg i (fun j hj => h j (by omega)), h i (by omega)]
def sft (k : Nat) : Nat := if k = 20 then 1 else 0
/-- the model in the midst of an edit: the things below i are through, c has changed -/
def zZd (μ μ' : zMS) (k i : Nat) (E : Nat → Int32) (c : Int32) : Prop := ∃ (ch be : Nat → Int32), μ' = vKp (vSe μ (fun j => if j < i then E j else mSe μ j)) (nI (min k 19 + 1)) ch be ∧ (∀ a, a < min k 19 → ch a = mCh μ (a + sft k)) ∧ ch (min k 19) = c ∧ (∀ a, a < min k 19 → ∀ j, j < 20 → be (20 * a + j) = mBe μ (20 * (a + sft k) + j)) ∧ ∀ j, j < 20 → bt c j = true → be (20 * min k 19 + j) = mSe μ j
theorem zZd_beg {k i : Nat} {E : Nat → Int32} (hk : mKp μ = nI k) (hk20 : k ≤ 20) (hE : ∀ j, j < i → E j = mSe μ j) : zZd μ (gBeg μ) k i E 0 := by
  have hse : (fun j => if j < i then E j else mSe μ j) = mSe μ := funext fun j => by
    by_cases q : j < i
    · rw [if_pos q, hE j q]
    · rw [if_neg q]
  unfold gBeg
  by_cases e : k = 20
  · subst e
    rw [if_pos (show mKp μ = 20 from hk)]
    refine ⟨_, _, by rw [hse]; rfl, fun a ha => ?_, ?_, fun a ha j hj => ?_, fun j hj hb => ?_⟩
    · show upd (fun j => if j < 19 then mCh μ (j + 1) else mCh μ j) 19 0 a = mCh μ (a + 1)
      rw [show upd (fun j => if j < 19 then mCh μ (j + 1) else mCh μ j) 19 0 a = (if a < 19 then mCh μ (a + 1) else mCh μ a) from if_neg (by omega), if_pos (by omega)]
    · rfl
    · show (if 20 * a + j < 380 then mBe μ (20 * a + j + 20) else mBe μ (20 * a + j)) = mBe μ (20 * (a + 1) + j)
      rw [if_pos (by omega), show 20 * a + j + 20 = 20 * (a + 1) + j by omega]
    · rw [bt_zero] at hb
      exact absurd hb (by decide)
  · have hne : ¬ mKp μ = 20 := fun q => e (nI_ne (b := 20) (by omega) (by omega) (hk.symm.trans q))
    have hm : min k 19 = k := by omega
    have hs : sft k = 0 := if_neg e
    rw [if_neg hne]
    refine ⟨_, _, by rw [hse, hm, ← nI_1, ← hk]; rfl, fun a ha => ?_, ?_, fun a ha j hj => ?_, fun j hj hb => ?_⟩
    · rw [hk, tn_nI (by omega), hs]
      exact if_neg (by omega)
    · rw [hk, tn_nI (by omega), hm]
      exact if_pos rfl
    · rw [hs, Nat.add_zero]
    · rw [bt_zero] at hb
      exact absurd hb (by decide)
theorem zZd_skip {μ' : zMS} {k i : Nat} {E : Nat → Int32} {c : Int32} (h : zZd μ μ' k i E c) (hE : E i = mSe μ i) : zZd μ μ' k (i + 1) E c := by
  have hse : (fun j => if j < i + 1 then E j else mSe μ j) = (fun j => if j < i then E j else mSe μ j) := funext fun j => by
    by_cases q : j = i
    · subst q; rw [if_pos (by omega), if_neg (by omega), hE]
    · by_cases q2 : j < i
      · rw [if_pos (by omega), if_pos q2]
      · rw [if_neg (by omega), if_neg q2]
  obtain ⟨ch, be, h1, h2⟩ := h
  exact ⟨ch, be, by rw [hse]; exact h1, h2⟩
theorem zZd_skips {μ' : zMS} {k i : Nat} {E : Nat → Int32} {c : Int32} (h : zZd μ μ' k i E c) : ∀ r, (∀ j, i ≤ j → j < i + r → E j = mSe μ j) → zZd μ μ' k (i + r) E c
  | 0, _ => h
  | r + 1, hE => zZd_skip (zZd_skips h r (fun j h1 h2 => hE j h1 (by omega))) (hE (i + r) (by omega) (by omega))
theorem zZd_sets {μ' : zMS} {k i : Nat} {E : Nat → Int32} {c : Int32} (h : zZd μ μ' k i E c) (hi : i < 20) : zZd μ (gSets μ' i (E i)) k (i + 1) E (c ||| sh1 i) := by
  obtain ⟨ch, be, rfl, h2, h3, h4, h5⟩ := h
  have hk : tn (nI (min k 19 + 1)) - 1 = min k 19 := by rw [tn_nI (by omega)]; omega
  refine ⟨upd ch (min k 19) (ch (min k 19) ||| sh1 i), upd be (20 * min k 19 + i) (mSe μ i), ?_, fun a ha => ?_, ?_, fun a ha j hj => ?_, fun j hj hb => ?_⟩
  · have hse : upd (fun j => if j < i then E j else mSe μ j) i (E i) = (fun j => if j < i + 1 then E j else mSe μ j) := funext fun j => by
      unfold upd
      by_cases q : j = i
      · subst q; rw [if_pos rfl, if_pos (by omega)]
      · rw [if_neg q]
        show (if j < i then E j else mSe μ j) = _
        by_cases q2 : j < i
        · rw [if_pos q2, if_pos (by omega)]
        · rw [if_neg q2, if_neg (by omega)]
    show vKp (vSe μ (upd (fun j => if j < i then E j else mSe μ j) i (E i))) (nI (min k 19 + 1)) (upd ch (tn (nI (min k 19 + 1)) - 1) (ch (tn (nI (min k 19 + 1)) - 1) ||| sh1 i)) (upd be (20 * (tn (nI (min k 19 + 1)) - 1) + i) (if i < i then E i else mSe μ i)) = _
    rw [hk, hse, if_neg (Nat.lt_irrefl i)]
  · rw [show upd ch (min k 19) (ch (min k 19) ||| sh1 i) a = ch a from if_neg (by omega)]
    exact h2 a ha
  · rw [show upd ch (min k 19) (ch (min k 19) ||| sh1 i) (min k 19) = _ from if_pos rfl, h3]
  · rw [show upd be (20 * min k 19 + i) (mSe μ i) (20 * a + j) = be (20 * a + j) from if_neg (by omega)]
    exact h4 a ha j hj
  · by_cases q : j = i
    · subst q
      exact if_pos rfl
    · rw [show upd be (20 * min k 19 + i) (mSe μ i) (20 * min k 19 + j) = be (20 * min k 19 + j) from if_neg (by omega)]
      refine h5 j hj ?_
      rw [b_or, Bool.or_eq_true, bt_shn (by omega)] at hb
      rcases hb with hb | hb
      · exact hb
      · exact absurd (of_decide_eq_true hb) q
/-- the class with the sets to come, and the model behind the edit -/
theorem rel_edit {n m q k s d : Nat} {μ' : zMS} {E E' : Nat → Int32} (h : zRel9 σ μ n m q k s d) (hE : ∀ j, j < m → E' j = E j) (hb : ∀ j, j < m → ∀ b, bt (E j) b = true → b < n) (hZ : zZd μ μ' k m E (fChg (mSe μ) E m)) :
    zRel (fRef (fFinH (wH σ ((sK σ).1, E', (sK σ).2.2)))) μ' := by
  obtain ⟨n1, n2, n3, n4, n5, n6, n7, n8, n9⟩ := h.nums2
  have hn := h.2.1.1.1.2.1
  have hm := h.2.1.1.1.2.2.2.1
  have hk := h.2.1.1.1.2.2.2.2.2.2.2.1
  obtain ⟨hI, hM, hN, hU, hR, hQ, hH, hW⟩ := id h
  have hs := hI.2.2.2.2.2.2.2.1.2.2.2.2.2
  obtain ⟨g1, g2, g3, g4⟩ := hH
  obtain ⟨ch, be, rfl, z2, z3, z4, z5⟩ := hZ
  have hcb : ∀ j, bt (fChg (mSe μ) E m) j = true → j < m := fun j hj => by
    rw [fChg_b m (by omega), Bool.and_eq_true] at hj
    exact of_decide_eq_true hj.1
  have eC : fChT (wH σ ((sK σ).1, E', (sK σ).2.2)) = fChg (mSe μ) E m := by
    show fChg (sK σ).1 E' (tn (sThings σ)) = _
    rw [n3, g1]
    exact fChg_cg m hE
  have eK : fFinH (wH σ ((sK σ).1, E', (sK σ).2.2)) = wH σ (fKeep ((sK σ).1, E', (sK σ).2.2) m s k (fChg (mSe μ) E m)) := by
    show wH (wH σ ((sK σ).1, E', (sK σ).2.2)) (fKeep ((sK σ).1, E', (sK σ).2.2) (tn (sThings σ)) (tn (sK σ).2.2.2.2.2.2) (tn (sK σ).2.2.2.2.2.1) (fChT (wH σ ((sK σ).1, E', (sK σ).2.2)))) = _
    rw [eC, n3, n9, n8]
    rfl
  have eR : fRef (wH σ (fKeep ((sK σ).1, E', (sK σ).2.2) m s k (fChg (mSe μ) E m))) = wV (wH σ (fKeep ((sK σ).1, E', (sK σ).2.2) m s k (fChg (mSe μ) E m))) (fSh σ.2.1.1 σ.2.1.2.2.2.1 n (fun j => if j < m then E' j else (sK σ).1 j) σ.2.2.2.2.2 m) := by
    show wV _ (fSh σ.2.1.1 σ.2.1.2.2.2.1 (tn (sTags σ)) (fun j => if j < m then E' j else (sK σ).1 j) σ.2.2.2.2.2 (tn (sThings σ))) = _
    rw [n1, n3]
  have eS : (fun j => if j < m then E' j else (sK σ).1 j) = (fun j => if j < m then E j else mSe μ j) := funext fun j => by
    by_cases q : j < m
    · rw [if_pos q, if_pos q, hE j q]
    · rw [if_neg q, if_neg q, g1]
  have hM2 : mIn2 (vKp (vSe μ (fun j => if j < m then E j else mSe μ j)) (nI (min k 19 + 1)) ch be) n m q (min k 19 + 1) d := by
    obtain ⟨⟨⟨h1, h2, h3, h4, h5, h6, h7, h8, h9⟩, h10⟩, h11⟩ := hM
    exact ⟨⟨⟨h1, h2, h3, h4, h5, h6, rfl, by omega, h9⟩, h10⟩, h11⟩
  have hk1 : min (k + 1) 20 = min k 19 + 1 := by omega
  rw [eK, eR]
  refine ⟨n, m, q, min k 19 + 1, if s + 1 < 20 then s + 1 else 0, d, mkRel9 hM2 hN hU hR hI.2.2.2.2.2.2.1 hQ ⟨eS, fun j hj => ?_, fun i b hb2 => ?_, fun a ha => ?_⟩ ⟨hI.2.2.2.2.2.2.2.1.1, hm, ?_, by omega, rfl, by split <;> omega⟩ ?_⟩
  · show (if j < m then E j else mSe μ j) = 0
    rw [if_neg (by omega)]
    exact g2 j hj
  · have hb2 : bt (if i < m then E i else mSe μ i) b = true := hb2
    by_cases q : i < m
    · rw [if_pos q] at hb2; exact hb i q b hb2
    · rw [if_neg q] at hb2; exact g3 i b hb2
  · have hsl : zsl (if s + 1 < 20 then s + 1 else 0) (min k 19 + 1) a = if a < min k 19 then zsl s k (a + sft k) else s := by
      unfold zsl sft
      by_cases q : a < min k 19
      · rw [if_pos q]
        split <;> split <;> omega
      · rw [if_neg q]
        split <;> omega
    rw [hsl]
    by_cases q : a < min k 19
    · rw [if_pos q]
      have hak : a + sft k < k := by unfold sft; split <;> omega
      have hne : ¬ zsl s k (a + sft k) = s := by
        unfold zsl sft
        split <;> omega
      obtain ⟨y1, y2⟩ := g4 (a + sft k) hak
      refine ⟨?_, fun j hj => ?_⟩
      · show upd (sK σ).2.2.1 s (fChg (mSe μ) E m) (zsl s k (a + sft k)) = ch a
        rw [show upd (sK σ).2.2.1 s (fChg (mSe μ) E m) (zsl s k (a + sft k)) = (sK σ).2.2.1 (zsl s k (a + sft k)) from if_neg hne, y1, z2 a q]
      · have hj : bt (ch a) j = true := hj
        rw [z2 a q] at hj
        obtain ⟨w1, w2, w3⟩ := y2 j hj
        refine ⟨w1, ?_, fun b hb2 => w3 b ?_⟩
        · show (if s * 20 ≤ zsl s k (a + sft k) * 20 + j ∧ zsl s k (a + sft k) * 20 + j < s * 20 + m then (sK σ).1 (zsl s k (a + sft k) * 20 + j - s * 20) else (sK σ).2.2.2.1 (zsl s k (a + sft k) * 20 + j)) = be (20 * a + j)
          rw [if_neg (by omega), w2, z4 a q j (by omega)]
        · have hb2 : bt (be (20 * a + j)) b = true := hb2
          rw [z4 a q j (by omega)] at hb2
          exact hb2
    · have ea : a = min k 19 := by omega
      subst ea
      rw [if_neg q]
      refine ⟨?_, fun j hj => ?_⟩
      · show upd (sK σ).2.2.1 s (fChg (mSe μ) E m) s = ch (min k 19)
        rw [show upd (sK σ).2.2.1 s (fChg (mSe μ) E m) s = fChg (mSe μ) E m from if_pos rfl, z3]
      · have hj : bt (ch (min k 19)) j = true := hj
        rw [z3] at hj
        have hjm := hcb j hj
        have ez := z5 j (by omega) hj
        refine ⟨hjm, ?_, fun b hb2 => ?_⟩
        · show (if s * 20 ≤ s * 20 + j ∧ s * 20 + j < s * 20 + m then (sK σ).1 (s * 20 + j - s * 20) else (sK σ).2.2.2.1 (s * 20 + j)) = be (20 * min k 19 + j)
          rw [if_pos (by omega), ez, g1, show s * 20 + j - s * 20 = j by omega]
        · have hb2 : bt (be (20 * min k 19 + j)) b = true := hb2
          rw [ez] at hb2
          exact g3 j b hb2
  · show nI (min (k + 1) 20) = nI (min k 19 + 1)
    rw [hk1]
  · rw [eS]
    exact zWo_ref hn hm hR (zWo_0 hW)
theorem rel_noed {n m q k s d : Nat} {E' : Nat → Int32} (h : zRel9 σ μ n m q k s d) : zRel (wH σ ((sK σ).1, E', (sK σ).2.2)) μ := ⟨n, m, q, k, s, d, h⟩
/-- one thing edited -/
theorem one_edit {n m q k s d i : Nat} {x : Int32} (h : zRel9 σ μ n m q k s d) (hi : i < m) (hx : ∀ b, bt x b = true → b < n) : (fChT (fEd (fStart σ) i x) = 0 ↔ mSe μ i = x) ∧ zRel (fFin (fEd (fStart σ) i x)) (gS1 (vThr μ 0) i x).2 := by
  obtain ⟨n1, n2, n3, n4, n5, n6, n7, n8, n9⟩ := h.nums2
  have hm := h.2.1.1.1.2.2.2.1
  have hk := h.2.1.1.1.2.2.2.2.2.2.1
  have hk20 := h.2.1.1.1.2.2.2.2.2.2.2.1
  have g1 : (sK σ).1 = mSe μ := h.2.2.2.2.2.2.1.1
  have g3 := h.2.2.2.2.2.2.1.2.2.1
  have eW : fEd (fStart σ) i x = wH σ ((sK σ).1, upd (fun j => if j < m then (sK σ).1 j else (sK σ).2.1 j) i x, (sK σ).2.2) := by
    show wH (wH σ _) ((sK σ).1, upd (fun j => if j < tn (sThings σ) then (sK σ).1 j else (sK σ).2.1 j) i x, (sK σ).2.2) = _
    rw [n3]
    rfl
  have hE : ∀ j, j < m → upd (fun j => if j < m then (sK σ).1 j else (sK σ).2.1 j) i x j = upd (mSe μ) i x j := fun j hj => by
    unfold upd
    split
    · rfl
    · show (if j < m then (sK σ).1 j else (sK σ).2.1 j) = _
      rw [if_pos hj, g1]
  have eC : fChT (fEd (fStart σ) i x) = fChg (mSe μ) (upd (mSe μ) i x) m := by
    rw [eW]
    show fChg (sK σ).1 _ (tn (sThings σ)) = _
    rw [n3, g1]
    exact fChg_cg m (fun j hj => by rw [← g1]; exact (hE j hj).trans (by rw [g1]))
  have hcb : ∀ j, bt (fChg (mSe μ) (upd (mSe μ) i x) m) j = (decide (j = i) && !decide (x = mSe μ i)) := fun j => by
    rw [fChg_b m (by omega)]
    by_cases q : j = i
    · subst q
      rw [show upd (mSe μ) j x j = x from if_pos rfl]
      simp [hi]
    · rw [show upd (mSe μ) i x j = mSe μ j from if_neg q]
      simp [q]
  have h0 : fChg (mSe μ) (upd (mSe μ) i x) m = 0 ↔ mSe μ i = x := by
    constructor
    · intro h9
      have := hcb i
      rw [h9, bt_zero] at this
      simp at this
      exact this.symm
    · intro h9
      apply b_ext
      intro j hj
      rw [hcb j, bt_zero, h9]
      simp
  refine ⟨by rw [eC]; exact h0, ?_⟩
  unfold fFin
  rw [eC]
  by_cases q : mSe μ i = x
  · rw [if_pos (h0.mpr q)]
    have : (gS1 (vThr μ 0) i x) = (0, vThr μ 0) := if_pos q
    rw [this, eW]
    exact rel_noed h
  · rw [if_neg (fun w => q (h0.mp w))]
    have : (gS1 (vThr μ 0) i x) = (1, gSets (gBeg (vThr μ 0)) i x) := if_neg q
    rw [this, eW]
    have hc : fChg (mSe μ) (upd (mSe μ) i x) m = (0 : Int32) ||| sh1 i := by
      apply b_ext
      intro j hj
      rw [hcb j, b_or, bt_zero, bt_shn (by omega)]
      simp [show ¬ x = mSe μ i from fun w => q w.symm]
    have hZ0 : zZd (vThr μ 0) (gBeg (vThr μ 0)) k i (upd (mSe μ) i x) 0 := zZd_beg hk hk20 (fun j hj => if_neg (by omega))
    have hZ1 := zZd_sets hZ0 (by omega)
    rw [show upd (mSe μ) i x i = x from if_pos rfl] at hZ1
    have hZ2 := zZd_skips hZ1 (m - (i + 1)) (fun j h1 h2 => if_neg (by omega))
    rw [show i + 1 + (m - (i + 1)) = m by omega, ← hc] at hZ2
    refine rel_edit (μ := vThr μ 0) (E := upd (mSe μ) i x) h hE (fun j hj b hb => ?_) hZ2
    by_cases e : j = i
    · subst e
      rw [show upd (mSe μ) j x j = x from if_pos rfl] at hb
      exact hx b hb
    · rw [show upd (mSe μ) i x j = mSe μ j from if_neg e] at hb
      exact g3 j b hb
theorem gS1_0 {i : Nat} {x : Int32} : (gS1 (vThr μ 0) i x).2.1 = 0 := by
  unfold gS1
  split
  · rfl
  · show (gBeg (vThr μ 0)).1 = 0
    unfold gBeg
    split <;> rfl
theorem gS1_a {i : Nat} {x : Int32} : (gS1 (vThr μ 0) i x).1 = zb (!decide (mSe μ i = x)) := by
  show (if mSe μ i = x then ((0 : Int32), vThr μ 0) else (1, _)).1 = _
  by_cases q : mSe μ i = x
  · rw [if_pos q, decide_eq_true q]; rfl
  · rw [if_neg q, decide_eq_false q]; rfl
theorem sim_tag {x y : Int32} (h : zRel σ μ) : zSim w21 eX5_tag tX5_tag [.int x, .int y] σ (gTag μ x y) := by
  obtain ⟨n, m, q, k, s, d, h9⟩ := id h
  obtain ⟨e1, e2, e3, e4, h1, h2, h3', h4', h5', h6', -⟩ := h9.nums
  refine sim_1 h (fun f k hk => ?_) (fun f hk => ?_) gS1_0 (fun hc f Kn hK => ⟨h.sh f, x, y, rfl, ?_⟩)
  · obtain ⟨-, x', y', e, rfl, h3⟩ := hk
    cases e
    rw [gT_pT, e1, e2, ← fOk_no, ← fOk_no] at h3
    exact ⟨by unfold gThe; rcases h3 with h3 | h3 <;> simp [h3], rfl⟩
  · cases hc : gThe μ x y with
    | true => rfl
    | false => exact absurd ⟨h.sh f, x, y, rfl, rfl, by
        rw [gT_pT, e1, e2, ← fOk_no, ← fOk_no]
        exact and_ff hc⟩ (hk 2)
  · unfold gThe at hc
    rw [h1, h3', Bool.and_eq_true] at hc
    obtain ⟨i, hi, rfl⟩ := (fOk_n (by omega)).mp hc.1
    obtain ⟨j, hj, rfl⟩ := (fOk_n (by omega)).mp hc.2
    obtain ⟨o1, o2⟩ := one_edit (x := mSe μ i ||| sh1 j) h9 hi (fun b hb => by
      rw [b_or, Bool.or_eq_true, bt_shn (by omega)] at hb
      rcases hb with hb | hb
      · exact h9.2.2.2.2.2.2.1.2.2.1 i b hb
      · have := of_decide_eq_true hb
        omega)
    have eT : fTagS σ (nI i) (nI j) = fEd (fStart σ) i (mSe μ i ||| sh1 j) := by
      unfold fTagS
      rw [tn_nI (by omega), tn_nI (by omega), show sHand σ = mSe μ from h9.2.2.2.2.2.2.1.1]
    rw [tn_nI (by omega), tn_nI (by omega)] at hK
    have h8 := hK _ o2
    rw [gS1_a] at h8
    rw [gT_pT, pT_pT, eT]
    have eD : decide (fChT (fEd (fStart σ) i (mSe μ i ||| sh1 j)) = 0) = decide (mSe μ i = mSe μ i ||| sh1 j) := decide_eq_decide.mpr o1
    rw [eD]
    exact h8
theorem sim_untag {x y : Int32} (h : zRel σ μ) : zSim w21 eX5_untag tX5_untag [.int x, .int y] σ (gUntag μ x y) := by
  obtain ⟨n, m, q, k, s, d, h9⟩ := id h
  obtain ⟨e1, e2, e3, e4, h1, h2, h3', h4', h5', h6', -⟩ := h9.nums
  refine sim_1 h (fun f k hk => ?_) (fun f hk => ?_) gS1_0 (fun hc f Kn hK => ⟨h.sh f, x, y, rfl, ?_⟩)
  · obtain ⟨-, x', y', e, rfl, h3⟩ := hk
    cases e
    rw [gT_pT, e1, e2, ← fOk_no, ← fOk_no] at h3
    exact ⟨by unfold gThe; rcases h3 with h3 | h3 <;> simp [h3], rfl⟩
  · cases hc : gThe μ x y with
    | true => rfl
    | false => exact absurd ⟨h.sh f, x, y, rfl, rfl, by
        rw [gT_pT, e1, e2, ← fOk_no, ← fOk_no]
        exact and_ff hc⟩ (hk 2)
  · unfold gThe at hc
    rw [h1, h3', Bool.and_eq_true] at hc
    obtain ⟨i, hi, rfl⟩ := (fOk_n (by omega)).mp hc.1
    obtain ⟨j, hj, rfl⟩ := (fOk_n (by omega)).mp hc.2
    obtain ⟨o1, o2⟩ := one_edit (x := mSe μ i &&& (sh1 j ^^^ (-1))) h9 hi (fun b hb => by
      rw [b_and, Bool.and_eq_true] at hb
      exact h9.2.2.2.2.2.2.1.2.2.1 i b hb.1)
    have eT : fUntS σ (nI i) (nI j) = fEd (fStart σ) i (mSe μ i &&& (sh1 j ^^^ (-1))) := by
      unfold fUntS
      rw [tn_nI (by omega), tn_nI (by omega), show sHand σ = mSe μ from h9.2.2.2.2.2.2.1.1]
    rw [tn_nI (by omega), tn_nI (by omega)] at hK
    have h8 := hK _ o2
    rw [gS1_a] at h8
    rw [gT_pT, pT_pT, eT]
    have eD : decide (fChT (fEd (fStart σ) i (mSe μ i &&& (sh1 j ^^^ (-1)))) = 0) = decide (mSe μ i = mSe μ i &&& (sh1 j ^^^ (-1))) := decide_eq_decide.mpr o1
    rw [eD]
    exact h8
end S9
